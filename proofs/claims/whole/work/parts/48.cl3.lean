set_option maxRecDepth 20000
section C3
variable {S S' S1 S2 : Mem} {z v w n lo hi : Nat} {x l : Int32} {r : Rc} {s : As} {y : Int64} {yd : UInt64}
theorem n20 : ¬ nI 2 = nI 0 := by decide
theorem n30 : ¬ nI 3 = nI 0 := by decide
theorem hd_t (hD : zDf z S (xD s) (xR s)) (c : xD s = true) : mI S z 3 = nI 1 := by
  have hd := hD.1
  rw [c] at hd
  exact hd
theorem hd_f (hD : zDf z S (xD s) (xR s)) (c : xD s = false) : mI S z 3 = nI 0 := by
  have hd := hD.1
  rw [c] at hd
  exact hd
theorem al31 {n : Nat} {L B : Nat → Nat} (h : aAl n L B) {i : Nat} (hi : i < n) : B i < 2147483648 ∧ L i < 2147483648 := by
  obtain ⟨a, b, c⟩ := h.1 i hi
  have := p4_8 b
  omega
theorem C_allele {b : Int64} {n : Int32} (hs : xOk s) (h : zCl z s S) : ∃ S', F_L_allele z b n (z + 220) S = some ((o_allele s b n).1, S') ∧ zCl z (o_allele s b n).2.2 S' ∧ zCf z S S' ∧ ((o_allele s b n).1 = nI 0 → mJ S' (z + 220) 0 = (o_allele s b n).2.1.toInt64) := by
  obtain ⟨hS, ⟨pp, hL⟩, hR, hD, hT⟩ := id h
  by_cases c1 : n < nI 1
  · refine ⟨S, ?_, ?_, zCf_refl hS, ?_⟩
    · simp only [F_L_allele, F_X5_allele, l_0, l_1, l_2, l_3, l_4, l_5, l_6, l_7, l_8, l_9, l_10, l_11, l_12, l_13, l_14, l_15, l_16, l_17, l_18, l_19, l_20, l_21, l_24, l_25, l_26, l_27, l_31, l_33, l_41, l_65, l_67, l_71, l_84, l_120, l_127, l_128, l_130, l_160, l_162, l_200, l_255, l_256, l_999, l_1000, l_8000, l_9999, l_10000, l_8001, l_m1, t_k0, t_g0, t_p0, t_z0, t_k1, t_g1, t_p1, t_z1, t_k3, t_g3, t_p3, t_z3, t_k187, t_g187, t_p187, t_z187, t_k210, t_g210, t_p210, t_z210, t_k212, t_g212, t_p212, t_z212, t_k214, t_g214, t_p214, t_z214, t_r0_0, t_r0_1, t_r0_2, t_r0_4, t_r0_5, t_r0_6, t_r0_7, t_r1_0, t_r3_0, t_r187_0, t_r187_1, t_r187_2, t_r187_3, t_r210_0, t_r212_0, t_r214_1, t_r214_5, t_r214_6, t_r214_8, t_r214_10, t_a2, t_s2, t_a209, t_s209, t_a211, t_s211, t_a213, t_s213, t_a215, t_s215, t_a216, t_s216, t_a217, t_s217, t_a218, t_s218, t_a219, t_s219, t_a4, t_s4, zSt_sI, zSt_sF, zSt_zI, zSt_sJ, zSt_sD, zBo_0, zBo_1, hS, bd2_some, bdx_inl, bdx_inr, bdc_inl, bdc_inr, obd_some, c1, ↓reduceIte, o_allele, true_or]
    · simp only [o_allele, c1, true_or, ↓reduceIte]; exact h
    · simp only [o_allele, c1, true_or, ↓reduceIte, ne10, false_imp_iff]
  by_cases c2 : nI 8 < n
  · have c2' : ¬ n ≤ nI 8 := fun q => Int32.not_lt.mpr q c2
    refine ⟨S, ?_, ?_, zCf_refl hS, ?_⟩
    · simp only [F_L_allele, F_X5_allele, l_0, l_1, l_2, l_3, l_4, l_5, l_6, l_7, l_8, l_9, l_10, l_11, l_12, l_13, l_14, l_15, l_16, l_17, l_18, l_19, l_20, l_21, l_24, l_25, l_26, l_27, l_31, l_33, l_41, l_65, l_67, l_71, l_84, l_120, l_127, l_128, l_130, l_160, l_162, l_200, l_255, l_256, l_999, l_1000, l_8000, l_9999, l_10000, l_8001, l_m1, t_k0, t_g0, t_p0, t_z0, t_k1, t_g1, t_p1, t_z1, t_k3, t_g3, t_p3, t_z3, t_k187, t_g187, t_p187, t_z187, t_k210, t_g210, t_p210, t_z210, t_k212, t_g212, t_p212, t_z212, t_k214, t_g214, t_p214, t_z214, t_r0_0, t_r0_1, t_r0_2, t_r0_4, t_r0_5, t_r0_6, t_r0_7, t_r1_0, t_r3_0, t_r187_0, t_r187_1, t_r187_2, t_r187_3, t_r210_0, t_r212_0, t_r214_1, t_r214_5, t_r214_6, t_r214_8, t_r214_10, t_a2, t_s2, t_a209, t_s209, t_a211, t_s211, t_a213, t_s213, t_a215, t_s215, t_a216, t_s216, t_a217, t_s217, t_a218, t_s218, t_a219, t_s219, t_a4, t_s4, zSt_sI, zSt_sF, zSt_zI, zSt_sJ, zSt_sD, zBo_0, zBo_1, hS, bd2_some, bdx_inl, bdx_inr, bdc_inl, bdc_inr, obd_some, c1, c2, c2', ↓reduceIte, o_allele, or_true]
    · simp only [o_allele, c1, c2, or_true, ↓reduceIte]; exact h
    · simp only [o_allele, c1, c2, or_true, ↓reduceIte, ne10, false_imp_iff]
  have c2' : n ≤ nI 8 := Int32.not_lt.mp c2
  obtain ⟨nn, rfl, a1, a2⟩ := in_of (by omega) c1 c2 (by omega)
  have t1 : tn (nI nn) = nn := tn_nI (by omega)
  by_cases c3 : xD s = false
  · have hd' := hd_f hD c3
    refine ⟨S, ?_, ?_, zCf_refl hS, ?_⟩
    · simp only [F_L_allele, F_X5_allele, l_0, l_1, l_2, l_3, l_4, l_5, l_6, l_7, l_8, l_9, l_10, l_11, l_12, l_13, l_14, l_15, l_16, l_17, l_18, l_19, l_20, l_21, l_24, l_25, l_26, l_27, l_31, l_33, l_41, l_65, l_67, l_71, l_84, l_120, l_127, l_128, l_130, l_160, l_162, l_200, l_255, l_256, l_999, l_1000, l_8000, l_9999, l_10000, l_8001, l_m1, t_k0, t_g0, t_p0, t_z0, t_k1, t_g1, t_p1, t_z1, t_k3, t_g3, t_p3, t_z3, t_k187, t_g187, t_p187, t_z187, t_k210, t_g210, t_p210, t_z210, t_k212, t_g212, t_p212, t_z212, t_k214, t_g214, t_p214, t_z214, t_r0_0, t_r0_1, t_r0_2, t_r0_4, t_r0_5, t_r0_6, t_r0_7, t_r1_0, t_r3_0, t_r187_0, t_r187_1, t_r187_2, t_r187_3, t_r210_0, t_r212_0, t_r214_1, t_r214_5, t_r214_6, t_r214_8, t_r214_10, t_a2, t_s2, t_a209, t_s209, t_a211, t_s211, t_a213, t_s213, t_a215, t_s215, t_a216, t_s216, t_a217, t_s217, t_a218, t_s218, t_a219, t_s219, t_a4, t_s4, zSt_sI, zSt_sF, zSt_zI, zSt_sJ, zSt_sD, zBo_0, zBo_1, hS, bd2_some, bdx_inl, bdx_inr, bdc_inl, bdc_inr, obd_some, c1, c2, c2', hd', ↓reduceIte, o_allele, or_self, c3, true_or, String.reduceEq]
    · simp only [o_allele, c1, c2, or_self, c3, true_or, ↓reduceIte]; exact h
    · simp only [o_allele, c1, c2, or_self, c3, true_or, ↓reduceIte, n20, false_imp_iff]
  rw [Bool.not_eq_false] at c3
  have hd' := hd_t hD c3
  obtain ⟨hr, hk⟩ := hD.2 c3
  have hok := hs.2.2.1 c3
  have hn4 := hok.1.2
  have hv := v_d hS
  have gn := hr.1.2.2
  have hb := hok.2.1
  by_cases c4 : aN (xR s) = 4
  · rw [c4] at gn
    refine ⟨S, ?_, ?_, zCf_refl hS, ?_⟩
    · simp only [F_L_allele, F_X5_allele, l_0, l_1, l_2, l_3, l_4, l_5, l_6, l_7, l_8, l_9, l_10, l_11, l_12, l_13, l_14, l_15, l_16, l_17, l_18, l_19, l_20, l_21, l_24, l_25, l_26, l_27, l_31, l_33, l_41, l_65, l_67, l_71, l_84, l_120, l_127, l_128, l_130, l_160, l_162, l_200, l_255, l_256, l_999, l_1000, l_8000, l_9999, l_10000, l_8001, l_m1, t_k0, t_g0, t_p0, t_z0, t_k1, t_g1, t_p1, t_z1, t_k3, t_g3, t_p3, t_z3, t_k187, t_g187, t_p187, t_z187, t_k210, t_g210, t_p210, t_z210, t_k212, t_g212, t_p212, t_z212, t_k214, t_g214, t_p214, t_z214, t_r0_0, t_r0_1, t_r0_2, t_r0_4, t_r0_5, t_r0_6, t_r0_7, t_r1_0, t_r3_0, t_r187_0, t_r187_1, t_r187_2, t_r187_3, t_r210_0, t_r212_0, t_r214_1, t_r214_5, t_r214_6, t_r214_8, t_r214_10, t_a2, t_s2, t_a209, t_s209, t_a211, t_s211, t_a213, t_s213, t_a215, t_s215, t_a216, t_s216, t_a217, t_s217, t_a218, t_s218, t_a219, t_s219, t_a4, t_s4, zSt_sI, zSt_sF, zSt_zI, zSt_sJ, zSt_sD, zBo_0, zBo_1, hS, bd2_some, bdx_inl, bdx_inr, bdc_inl, bdc_inr, obd_some, c1, c2, c2', hd', ne10, v_gI hv, gn, ↓reduceIte, o_allele, or_self, c4, true_or, or_true, String.reduceEq]
    · simp only [o_allele, c1, c2, or_self, c4, true_or, or_true, ↓reduceIte]; exact h
    · simp only [o_allele, c1, c2, or_self, c4, true_or, or_true, ↓reduceIte, n20, false_imp_iff]
  have c4' : ¬ nI (aN (xR s)) = nI 4 := fun q => c4 ((nI_eq (by omega) (by omega)).mp q)
  have hlow : F_X5_lowBases (nI nn) S = some (nI (4 ^ nn - 1), S) := by
    simp only [F_X5_lowBases, l_0, l_1, l_2, l_3, l_4, l_5, l_6, l_7, l_8, l_9, l_10, l_11, l_12, l_13, l_14, l_15, l_16, l_17, l_18, l_19, l_20, l_21, l_24, l_25, l_26, l_27, l_31, l_33, l_41, l_65, l_67, l_71, l_84, l_120, l_127, l_128, l_130, l_160, l_162, l_200, l_255, l_256, l_999, l_1000, l_8000, l_9999, l_10000, l_8001, l_m1, nI_mul, b_low (show nn < 16 by omega)]
  have hbb := c_lowb (b := b) (show nn < 16 by omega)
  have hbl : b.toBitVec.toNat % 4 ^ nn < 65536 := Nat.lt_of_lt_of_le (Nat.mod_lt _ (p4_pos nn)) (p4_8 a2)
  have hf := c_find (S := S) (v := z + 173) (n := aN (xR s)) (L := aL (xR s)) (B := aB (xR s)) (b := b.toBitVec.toNat % 4 ^ nn) (l := nn) hv gn hn4 (fun i hi => ⟨(hr.2.1 i hi).1, (hr.2.1 i hi).2.1, (al31 hb hi).1, (al31 hb hi).2⟩) (by omega) (by omega)
  by_cases c5 : hasA (aN (xR s)) (aL (xR s)) (aB (xR s)) nn (b.toBitVec.toNat % 4 ^ nn) = true
  · obtain ⟨k, ek⟩ := hasA_t c5
    have hk4 := (fnd_some ek).1
    rw [ek] at hf
    have c6 : ¬ fI (some k) < nI 0 := nI_nlt (by omega) (by omega)
    refine ⟨S, ?_, ?_, zCf_refl hS, ?_⟩
    · simp only [F_L_allele, F_X5_allele, l_0, l_1, l_2, l_3, l_4, l_5, l_6, l_7, l_8, l_9, l_10, l_11, l_12, l_13, l_14, l_15, l_16, l_17, l_18, l_19, l_20, l_21, l_24, l_25, l_26, l_27, l_31, l_33, l_41, l_65, l_67, l_71, l_84, l_120, l_127, l_128, l_130, l_160, l_162, l_200, l_255, l_256, l_999, l_1000, l_8000, l_9999, l_10000, l_8001, l_m1, t_k0, t_g0, t_p0, t_z0, t_k1, t_g1, t_p1, t_z1, t_k3, t_g3, t_p3, t_z3, t_k187, t_g187, t_p187, t_z187, t_k210, t_g210, t_p210, t_z210, t_k212, t_g212, t_p212, t_z212, t_k214, t_g214, t_p214, t_z214, t_r0_0, t_r0_1, t_r0_2, t_r0_4, t_r0_5, t_r0_6, t_r0_7, t_r1_0, t_r3_0, t_r187_0, t_r187_1, t_r187_2, t_r187_3, t_r210_0, t_r212_0, t_r214_1, t_r214_5, t_r214_6, t_r214_8, t_r214_10, t_a2, t_s2, t_a209, t_s209, t_a211, t_s211, t_a213, t_s213, t_a215, t_s215, t_a216, t_s216, t_a217, t_s217, t_a218, t_s218, t_a219, t_s219, t_a4, t_s4, zSt_sI, zSt_sF, zSt_zI, zSt_sJ, zSt_sD, zBo_0, zBo_1, hS, bd2_some, bdx_inl, bdx_inr, bdc_inl, bdc_inr, obd_some, c1, c2, c2', hd', ne10, v_gI hv, gn, c4', hlow, hbb, v_pk hv, hf, c6, ↓reduceIte, o_allele, or_self, t1, c5, or_true, String.reduceEq]
    · simp only [o_allele, c1, c2, or_self, t1, c5, or_true, ↓reduceIte]; exact h
    · simp only [o_allele, c1, c2, or_self, t1, c5, or_true, ↓reduceIte, n20, false_imp_iff]
  have c5' : hasA (aN (xR s)) (aL (xR s)) (aB (xR s)) nn (b.toBitVec.toNat % 4 ^ nn) = false := by rw [Bool.not_eq_true] at c5; exact c5
  rw [hasA_f.mp c5'] at hf
  have c6 : fI none < nI 0 := m1_lt
  have hA := c_append (S := S) (v := z + 173) (n := aN (xR s)) (b := nI (b.toBitVec.toNat % 4 ^ nn)) (l := nI nn) hv gn (by omega)
  have hF : zFr (z + 173) (z + 173 + 7) S (appV S (z + 173) (aN (xR s)) (nI (b.toBitVec.toNat % 4 ^ nn)) (nI nn)) := app_Fr
  have hSa := zSt_Fr hF hS
  have e2 : mI (appV S (z + 173) (aN (xR s)) (nI (b.toBitVec.toNat % 4 ^ nn)) (nI nn)) (z + 173) 2 = nI (aN (xR s) + 1) := by
    simp [appV, mI_sI]
  have e3 : nI (aN (xR s) + 1) - nI 1 = nI (aN (xR s)) := nI_sub1 (by omega)
  have c5f : ¬ (xD s = false ∨ aN (xR s) = 4 ∨ hasA (aN (xR s)) (aL (xR s)) (aB (xR s)) nn (b.toBitVec.toNat % 4 ^ nn) = true) := by
    rw [c3, c5']
    simp [c4]
  have c12 : ¬ (nI nn < nI 1 ∨ nI 8 < nI nn) := fun q => q.elim c1 c2
  have hspec : o_allele s b (nI nn) = (nI 0, nI (aN (xR s)), wDraft s true (aSetA (xR s) nn (b.toBitVec.toNat % 4 ^ nn))) := by
    unfold o_allele
    rw [if_neg c12, t1, if_neg c5f]
  rw [hspec]
  refine ⟨sJ (appV S (z + 173) (aN (xR s)) (nI (b.toBitVec.toNat % 4 ^ nn)) (nI nn)) (z + 220) 0 (nI (aN (xR s))).toInt64, ?_, zCl_sJ ?_, zCf_sJ (zCf_Fr hS hF (by omega)), fun _ => mJ_sJ⟩
  · simp only [F_L_allele, F_X5_allele, l_0, l_1, l_2, l_3, l_4, l_5, l_6, l_7, l_8, l_9, l_10, l_11, l_12, l_13, l_14, l_15, l_16, l_17, l_18, l_19, l_20, l_21, l_24, l_25, l_26, l_27, l_31, l_33, l_41, l_65, l_67, l_71, l_84, l_120, l_127, l_128, l_130, l_160, l_162, l_200, l_255, l_256, l_999, l_1000, l_8000, l_9999, l_10000, l_8001, l_m1, t_k0, t_g0, t_p0, t_z0, t_k1, t_g1, t_p1, t_z1, t_k3, t_g3, t_p3, t_z3, t_k187, t_g187, t_p187, t_z187, t_k210, t_g210, t_p210, t_z210, t_k212, t_g212, t_p212, t_z212, t_k214, t_g214, t_p214, t_z214, t_r0_0, t_r0_1, t_r0_2, t_r0_4, t_r0_5, t_r0_6, t_r0_7, t_r1_0, t_r3_0, t_r187_0, t_r187_1, t_r187_2, t_r187_3, t_r210_0, t_r212_0, t_r214_1, t_r214_5, t_r214_6, t_r214_8, t_r214_10, t_a2, t_s2, t_a209, t_s209, t_a211, t_s211, t_a213, t_s213, t_a215, t_s215, t_a216, t_s216, t_a217, t_s217, t_a218, t_s218, t_a219, t_s219, t_a4, t_s4, zSt_sI, zSt_sF, zSt_zI, zSt_sJ, zSt_sD, zBo_0, zBo_1, hS, hSa, bd2_some, bdx_inl, bdx_inr, bdc_inl, bdc_inr, obd_some, c1, c2, c2', hd', ne10, v_gI hv, gn, c4', hlow, hbb, v_pk hv, hf, c6, ↓reduceIte, hA, v_gI (v_d hSa), e2, e3, t_sJ hSa]
  · refine zCl_draft hs h hSa (by rw [zFr_R hF]) (fun a h1 h2 h3 => hF.2 _ (by omega)) ⟨?_, fun _ => ⟨⟨⟨?_, ?_, ?_⟩, ?_, ?_, ?_, ?_⟩, ?_⟩⟩
    · rw [hF.2 z (by omega)]; exact hd'
    · simp [appV, mI_sI, zn2, aSetA, aP]; exact hr.1.1
    · simp [appV, mI_sI, zn2, aSetA, aQ]; exact hr.1.2.1
    · simp [appV, mI_sI, zn2, aSetA, aN]
    · intro i hi
      have hi' : i < aN (xR s) + 1 := hi
      by_cases c : i = aN (xR s)
      · subst c
        simp [appV, mI_sI, aSetA, aB, aL, aD, va_up]
      · obtain ⟨q1, q2, q3⟩ := hr.2.1 i (by omega)
        have d1 : aB (aSetA (xR s) nn (b.toBitVec.toNat % 4 ^ nn)) i = aB (xR s) i := if_neg c
        have d2 : aL (aSetA (xR s) nn (b.toBitVec.toNat % 4 ^ nn)) i = aL (xR s) i := if_neg c
        have d3 : aD (aSetA (xR s) nn (b.toBitVec.toNat % 4 ^ nn)) i = aD (xR s) i := if_neg c
        rw [d1, d2, d3]
        simp [appV, mI_sI, c, q1, q2, q3]
    · intro i hi
      have d1 : aG (aSetA (xR s) nn (b.toBitVec.toNat % 4 ^ nn)) = aG (xR s) := rfl
      rw [d1, ← hr.2.2.1 i hi]
      simp [appV, mI_sI]
    · intro i hi
      have d1 : aH (aSetA (xR s) nn (b.toBitVec.toNat % 4 ^ nn)) = aH (xR s) := rfl
      rw [d1, ← hr.2.2.2.1 i hi]
      simp [appV, mI_sI]
    · intro i hi
      have hp : prs (aN (aSetA (xR s) nn (b.toBitVec.toNat % 4 ^ nn))) ≤ 10 := prs_le (by show aN (xR s) + 1 ≤ 4; omega)
      have d1 : aK (aSetA (xR s) nn (b.toBitVec.toNat % 4 ^ nn)) = aK (xR s) := rfl
      rw [d1, ← hk i (by omega), ← hk (10 + i) (by omega)]
      simp [appV, mI_sI]
    · intro i hi
      have d1 : aK (aSetA (xR s) nn (b.toBitVec.toNat % 4 ^ nn)) = aK (xR s) := rfl
      rw [d1, ← hk i hi]
      simp [appV, mI_sI]
theorem C_depth {a d q : Int32} (hs : xOk s) (h : zCl z s S) : ∃ S', F_L_depth z a d q S = some ((o_depth s a d q).1, S') ∧ zCl z (o_depth s a d q).2 S' ∧ zCf z S S' := by
  obtain ⟨hS, ⟨pp, hL⟩, hR, hD, hT⟩ := id h
  by_cases c3 : xD s = false
  · have hd' := hd_f hD c3
    refine ⟨S, ?_, ?_, zCf_refl hS⟩
    · simp only [F_L_depth, F_X5_depth, l_0, l_1, l_2, l_3, l_4, l_5, l_6, l_7, l_8, l_9, l_10, l_11, l_12, l_13, l_14, l_15, l_16, l_17, l_18, l_19, l_20, l_21, l_24, l_25, l_26, l_27, l_31, l_33, l_41, l_65, l_67, l_71, l_84, l_120, l_127, l_128, l_130, l_160, l_162, l_200, l_255, l_256, l_999, l_1000, l_8000, l_9999, l_10000, l_8001, l_m1, t_k0, t_g0, t_p0, t_z0, t_k1, t_g1, t_p1, t_z1, t_k3, t_g3, t_p3, t_z3, t_k187, t_g187, t_p187, t_z187, t_k210, t_g210, t_p210, t_z210, t_k212, t_g212, t_p212, t_z212, t_k214, t_g214, t_p214, t_z214, t_r0_0, t_r0_1, t_r0_2, t_r0_4, t_r0_5, t_r0_6, t_r0_7, t_r1_0, t_r3_0, t_r187_0, t_r187_1, t_r187_2, t_r187_3, t_r210_0, t_r212_0, t_r214_1, t_r214_5, t_r214_6, t_r214_8, t_r214_10, t_a2, t_s2, t_a209, t_s209, t_a211, t_s211, t_a213, t_s213, t_a215, t_s215, t_a216, t_s216, t_a217, t_s217, t_a218, t_s218, t_a219, t_s219, t_a4, t_s4, zSt_sI, zSt_sF, zSt_zI, zSt_sJ, zSt_sD, zBo_0, zBo_1, hS, bd2_some, bdx_inl, bdx_inr, bdc_inl, bdc_inr, obd_some, hd', ↓reduceIte, o_depth, c3, true_or]
    · simp only [o_depth, c3, true_or, ↓reduceIte]; exact h
  rw [Bool.not_eq_false] at c3
  have hd' := hd_t hD c3
  obtain ⟨hr, hk⟩ := hD.2 c3
  have hok := hs.2.2.1 c3
  have hv := v_d hS
  have gn := hr.1.2.2
  have hn4 := hok.1.2
  by_cases c1 : a < nI 0 ∨ nI (aN (xR s)) ≤ a
  · have cc : (xD s = false ∨ a < nI 0 ∨ nI (aN (xR s)) ≤ a ∨ d < nI 0 ∨ nI 9999 < d ∨ q < nI 0 ∨ nI 8000 < q) := by
      rcases c1 with c | c
      · exact Or.inr (Or.inl c)
      · exact Or.inr (Or.inr (Or.inl c))
    rw [show o_depth s a d q = (nI 1, s) from if_pos cc]
    refine ⟨S, ?_, h, zCf_refl hS⟩
    simp only [F_L_depth, F_X5_depth, l_0, l_1, l_2, l_3, l_4, l_5, l_6, l_7, l_8, l_9, l_10, l_11, l_12, l_13, l_14, l_15, l_16, l_17, l_18, l_19, l_20, l_21, l_24, l_25, l_26, l_27, l_31, l_33, l_41, l_65, l_67, l_71, l_84, l_120, l_127, l_128, l_130, l_160, l_162, l_200, l_255, l_256, l_999, l_1000, l_8000, l_9999, l_10000, l_8001, l_m1, t_k0, t_g0, t_p0, t_z0, t_k1, t_g1, t_p1, t_z1, t_k3, t_g3, t_p3, t_z3, t_k187, t_g187, t_p187, t_z187, t_k210, t_g210, t_p210, t_z210, t_k212, t_g212, t_p212, t_z212, t_k214, t_g214, t_p214, t_z214, t_r0_0, t_r0_1, t_r0_2, t_r0_4, t_r0_5, t_r0_6, t_r0_7, t_r1_0, t_r3_0, t_r187_0, t_r187_1, t_r187_2, t_r187_3, t_r210_0, t_r212_0, t_r214_1, t_r214_5, t_r214_6, t_r214_8, t_r214_10, t_a2, t_s2, t_a209, t_s209, t_a211, t_s211, t_a213, t_s213, t_a215, t_s215, t_a216, t_s216, t_a217, t_s217, t_a218, t_s218, t_a219, t_s219, t_a4, t_s4, zSt_sI, zSt_sF, zSt_zI, zSt_sJ, zSt_sD, zBo_0, zBo_1, hS, bd2_some, bdx_inl, bdx_inr, bdc_inl, bdc_inr, obd_some, hd', ne10, ↓reduceIte, v_pk hv, c_hasAllele hv, gn, c1]
  by_cases c2 : d < nI 0 ∨ nI 9999 < d
  · have cc : (xD s = false ∨ a < nI 0 ∨ nI (aN (xR s)) ≤ a ∨ d < nI 0 ∨ nI 9999 < d ∨ q < nI 0 ∨ nI 8000 < q) := by
      rcases c2 with c | c
      · exact Or.inr (Or.inr (Or.inr (Or.inl c)))
      · exact Or.inr (Or.inr (Or.inr (Or.inr (Or.inl c))))
    rw [show o_depth s a d q = (nI 1, s) from if_pos cc]
    refine ⟨S, ?_, h, zCf_refl hS⟩
    simp only [F_L_depth, F_X5_depth, l_0, l_1, l_2, l_3, l_4, l_5, l_6, l_7, l_8, l_9, l_10, l_11, l_12, l_13, l_14, l_15, l_16, l_17, l_18, l_19, l_20, l_21, l_24, l_25, l_26, l_27, l_31, l_33, l_41, l_65, l_67, l_71, l_84, l_120, l_127, l_128, l_130, l_160, l_162, l_200, l_255, l_256, l_999, l_1000, l_8000, l_9999, l_10000, l_8001, l_m1, t_k0, t_g0, t_p0, t_z0, t_k1, t_g1, t_p1, t_z1, t_k3, t_g3, t_p3, t_z3, t_k187, t_g187, t_p187, t_z187, t_k210, t_g210, t_p210, t_z210, t_k212, t_g212, t_p212, t_z212, t_k214, t_g214, t_p214, t_z214, t_r0_0, t_r0_1, t_r0_2, t_r0_4, t_r0_5, t_r0_6, t_r0_7, t_r1_0, t_r3_0, t_r187_0, t_r187_1, t_r187_2, t_r187_3, t_r210_0, t_r212_0, t_r214_1, t_r214_5, t_r214_6, t_r214_8, t_r214_10, t_a2, t_s2, t_a209, t_s209, t_a211, t_s211, t_a213, t_s213, t_a215, t_s215, t_a216, t_s216, t_a217, t_s217, t_a218, t_s218, t_a219, t_s219, t_a4, t_s4, zSt_sI, zSt_sF, zSt_zI, zSt_sJ, zSt_sD, zBo_0, zBo_1, hS, bd2_some, bdx_inl, bdx_inr, bdc_inl, bdc_inr, obd_some, hd', ne10, ↓reduceIte, v_pk hv, c_hasAllele hv, gn, c1, c_within, c2]
  by_cases c4 : q < nI 0 ∨ nI 8000 < q
  · have cc : (xD s = false ∨ a < nI 0 ∨ nI (aN (xR s)) ≤ a ∨ d < nI 0 ∨ nI 9999 < d ∨ q < nI 0 ∨ nI 8000 < q) := Or.inr (Or.inr (Or.inr (Or.inr (Or.inr c4))))
    rw [show o_depth s a d q = (nI 1, s) from if_pos cc]
    refine ⟨S, ?_, h, zCf_refl hS⟩
    simp only [F_L_depth, F_X5_depth, l_0, l_1, l_2, l_3, l_4, l_5, l_6, l_7, l_8, l_9, l_10, l_11, l_12, l_13, l_14, l_15, l_16, l_17, l_18, l_19, l_20, l_21, l_24, l_25, l_26, l_27, l_31, l_33, l_41, l_65, l_67, l_71, l_84, l_120, l_127, l_128, l_130, l_160, l_162, l_200, l_255, l_256, l_999, l_1000, l_8000, l_9999, l_10000, l_8001, l_m1, t_k0, t_g0, t_p0, t_z0, t_k1, t_g1, t_p1, t_z1, t_k3, t_g3, t_p3, t_z3, t_k187, t_g187, t_p187, t_z187, t_k210, t_g210, t_p210, t_z210, t_k212, t_g212, t_p212, t_z212, t_k214, t_g214, t_p214, t_z214, t_r0_0, t_r0_1, t_r0_2, t_r0_4, t_r0_5, t_r0_6, t_r0_7, t_r1_0, t_r3_0, t_r187_0, t_r187_1, t_r187_2, t_r187_3, t_r210_0, t_r212_0, t_r214_1, t_r214_5, t_r214_6, t_r214_8, t_r214_10, t_a2, t_s2, t_a209, t_s209, t_a211, t_s211, t_a213, t_s213, t_a215, t_s215, t_a216, t_s216, t_a217, t_s217, t_a218, t_s218, t_a219, t_s219, t_a4, t_s4, zSt_sI, zSt_sF, zSt_zI, zSt_sJ, zSt_sD, zBo_0, zBo_1, hS, bd2_some, bdx_inl, bdx_inr, bdc_inl, bdc_inr, obd_some, hd', ne10, ↓reduceIte, v_pk hv, c_hasAllele hv, gn, c1, c_within, c2, c4]
  obtain ⟨an, rfl, -, a2⟩ := in_of' (by omega) (fun e => c1 (Or.inl e)) (fun e => c1 (Or.inr e)) (by omega)
  obtain ⟨dn, rfl, -, b2⟩ := in_of (by omega) (fun e => c2 (Or.inl e)) (fun e => c2 (Or.inr e)) (by omega)
  obtain ⟨qn, rfl, -, d2⟩ := in_of (by omega) (fun e => c4 (Or.inl e)) (fun e => c4 (Or.inr e)) (by omega)
  have cc : ¬ (xD s = false ∨ nI an < nI 0 ∨ nI (aN (xR s)) ≤ nI an ∨ nI dn < nI 0 ∨ nI 9999 < nI dn ∨ nI qn < nI 0 ∨ nI 8000 < nI qn) := by
    rw [c3]
    rintro (e | e | e | e | e | e)
    · cases e
    · exact c1 (Or.inl e)
    · exact c1 (Or.inr e)
    · exact c2 (Or.inl e)
    · exact c2 (Or.inr e)
    · exact c4 e
  have t1 : tn (nI an) = an := tn_nI (by omega)
  have t2 : tn (nI dn) = dn := tn_nI (by omega)
  have t3 : tn (nI qn) = qn := tn_nI (by omega)
  have a4 : an < 4 := by omega
  have hspec : o_depth s (nI an) (nI dn) (nI qn) = (nI 0, wDraft s true (aP (xR s), qn, aN (xR s), aL (xR s), aB (xR s), va_up (aD (xR s)) an dn, aG (xR s), aH (xR s), aK (xR s))) := by
    unfold o_depth
    rw [if_neg cc, t1, t2, t3]
  rw [hspec]
  have hF : zFr (z + 173) (z + 173 + 7) S (sI (sI S (z + 173 + 3) an (nI dn)) (z + 173) 1 (nI qn)) := zFr_trans (zFr_sI (by omega) (by omega)) (zFr_sI (by omega) (by omega))
  have hSa := zSt_Fr hF hS
  refine ⟨sI (sI S (z + 173 + 3) an (nI dn)) (z + 173) 1 (nI qn), ?_, ?_, zCf_Fr hS hF (by omega)⟩
  · simp only [F_L_depth, F_X5_depth, l_0, l_1, l_2, l_3, l_4, l_5, l_6, l_7, l_8, l_9, l_10, l_11, l_12, l_13, l_14, l_15, l_16, l_17, l_18, l_19, l_20, l_21, l_24, l_25, l_26, l_27, l_31, l_33, l_41, l_65, l_67, l_71, l_84, l_120, l_127, l_128, l_130, l_160, l_162, l_200, l_255, l_256, l_999, l_1000, l_8000, l_9999, l_10000, l_8001, l_m1, t_k0, t_g0, t_p0, t_z0, t_k1, t_g1, t_p1, t_z1, t_k3, t_g3, t_p3, t_z3, t_k187, t_g187, t_p187, t_z187, t_k210, t_g210, t_p210, t_z210, t_k212, t_g212, t_p212, t_z212, t_k214, t_g214, t_p214, t_z214, t_r0_0, t_r0_1, t_r0_2, t_r0_4, t_r0_5, t_r0_6, t_r0_7, t_r1_0, t_r3_0, t_r187_0, t_r187_1, t_r187_2, t_r187_3, t_r210_0, t_r212_0, t_r214_1, t_r214_5, t_r214_6, t_r214_8, t_r214_10, t_a2, t_s2, t_a209, t_s209, t_a211, t_s211, t_a213, t_s213, t_a215, t_s215, t_a216, t_s216, t_a217, t_s217, t_a218, t_s218, t_a219, t_s219, t_a4, t_s4, zSt_sI, zSt_sF, zSt_zI, zSt_sJ, zSt_sD, zBo_0, zBo_1, hS, bd2_some, bdx_inl, bdx_inr, bdc_inl, bdc_inr, obd_some, hd', ne10, ↓reduceIte, v_pk, v_gI, v_pI, v_g3, v_a1, v_s1, v_g4, v_a2, v_s2, v_g5, v_a3, v_s3, v_g6, v_a4, v_s4, v_g7, v_a5, v_s5, v_g8, v_a6, v_s6, zVar_sI, zVar_sF, zVar_zI, zBo_0, zBo_1, hv, c_hasAllele hv, gn, c1, c_within, c2, c4, a4]
  · refine zCl_draft hs h hSa (by rw [zFr_R hF]) (fun a h1 h2 h3 => hF.2 _ (by omega)) ⟨?_, fun _ => ⟨⟨⟨?_, ?_, ?_⟩, ?_, ?_, ?_, ?_⟩, ?_⟩⟩
    · rw [hF.2 z (by omega)]; exact hd'
    · simp [mI_sI]; exact hr.1.1
    · simp [mI_sI, aQ]
    · simp [mI_sI]; exact hr.1.2.2
    · intro i hi
      obtain ⟨q1, q2, q3⟩ := hr.2.1 i hi
      refine ⟨?_, ?_, ?_⟩
      · simp [mI_sI]; exact q1
      · simp [mI_sI]; exact q2
      · simp only [mI_sI, aD, va_up]
        by_cases c : i = an
        · simp [c]
        · simp [c]; exact q3
    · intro i hi
      simp [mI_sI]; exact hr.2.2.1 i hi
    · intro i hi
      simp [mI_sI]; exact hr.2.2.2.1 i hi
    · intro i hi
      simp [mI_sI]; exact hr.2.2.2.2 i hi
    · intro i hi
      simp [mI_sI]; exact hk i hi
theorem m1_iff {x : Int32} : x < m1 ∨ x = m1 ∨ ¬ x < nI 0 := by
  by_cases h : x < nI 0
  · rw [Int32.lt_iff_toInt_lt] at h
    have e0 : (nI 0).toInt = 0 := by decide
    have e1 : m1.toInt = -1 := by decide
    by_cases h2 : x.toInt = -1
    · exact Or.inr (Or.inl (Int32.toInt_inj.mp (h2.trans e1.symm)))
    · refine Or.inl ?_
      rw [Int32.lt_iff_toInt_lt]
      omega
  · exact Or.inr (Or.inr h)
theorem lt_m1 {x : Int32} (h : x < m1) : x < nI 0 ∧ ¬ x = m1 := by
  refine ⟨?_, ?_⟩
  · rw [Int32.lt_iff_toInt_lt] at h ⊢
    have e0 : (nI 0).toInt = 0 := by decide
    have e1 : m1.toInt = -1 := by decide
    omega
  · rintro rfl
    exact absurd h (by decide)
/-- an allele of a genotype -/
theorem gen_of {x : Int32} {n : Nat} (hn : n < 2147483648) (h1 : ¬ x < m1) (h2 : ¬ nI n ≤ x) : (x = m1 ∧ gN x = 0 ∨ ∃ g, x = nI g ∧ g < n ∧ gN x = g + 1) ∧ (if x = m1 then nI 1 else if x < nI 0 ∨ nI n ≤ x then nI 0 else nI 1) = nI 1 ∧ gI (gN x) = x ∧ gN x ≤ n := by
  rcases m1_iff (x := x) with e | e | e
  · exact absurd e h1
  · subst e
    refine ⟨Or.inl ⟨rfl, rfl⟩, if_pos rfl, rfl, ?_⟩
    show 0 ≤ n
    omega
  · obtain ⟨g, rfl, -, hg⟩ := in_of' hn e h2 (by omega)
    have eg : gN (nI g) = g + 1 := by
      unfold gN
      rw [if_neg e, tn_nI (by omega)]
    refine ⟨Or.inr ⟨g, rfl, hg, eg⟩, ?_, ?_, ?_⟩
    · rw [if_neg (m1_ne (by omega)), if_neg (by rintro (q | q); exact e q; exact h2 q)]
    · rw [eg]; rfl
    · rw [eg]; omega
theorem gen_bad {x : Int32} {n : Nat} (h : x < m1 ∨ nI n ≤ x) (hn : n < 2147483648) : (if x = m1 then nI 1 else if x < nI 0 ∨ nI n ≤ x then nI 0 else nI 1) = nI 0 := by
  rcases h with h | h
  · obtain ⟨a, b⟩ := lt_m1 h
    rw [if_neg b, if_pos (Or.inl a)]
  · have : ¬ x = m1 := by rintro rfl; exact m1_le' hn h
    rw [if_neg this, if_pos (Or.inr h)]
theorem C_genotype {m f g p : Int32} (hp : zBo p) (hs : xOk s) (h : zCl z s S) : ∃ S', F_L_genotype z m f g p S = some ((o_genotype s m f g p).1, S') ∧ zCl z (o_genotype s m f g p).2 S' ∧ zCf z S S' := by
  obtain ⟨hS, ⟨pp, hL⟩, hR, hD, hT⟩ := id h
  by_cases c3 : xD s = false
  · have hd' := hd_f hD c3
    rw [show o_genotype s m f g p = (nI 1, s) from if_pos (Or.inl c3)]
    refine ⟨S, ?_, h, zCf_refl hS⟩
    simp only [F_L_genotype, F_X5_genotype, l_0, l_1, l_2, l_3, l_4, l_5, l_6, l_7, l_8, l_9, l_10, l_11, l_12, l_13, l_14, l_15, l_16, l_17, l_18, l_19, l_20, l_21, l_24, l_25, l_26, l_27, l_31, l_33, l_41, l_65, l_67, l_71, l_84, l_120, l_127, l_128, l_130, l_160, l_162, l_200, l_255, l_256, l_999, l_1000, l_8000, l_9999, l_10000, l_8001, l_m1, t_k0, t_g0, t_p0, t_z0, t_k1, t_g1, t_p1, t_z1, t_k3, t_g3, t_p3, t_z3, t_k187, t_g187, t_p187, t_z187, t_k210, t_g210, t_p210, t_z210, t_k212, t_g212, t_p212, t_z212, t_k214, t_g214, t_p214, t_z214, t_r0_0, t_r0_1, t_r0_2, t_r0_4, t_r0_5, t_r0_6, t_r0_7, t_r1_0, t_r3_0, t_r187_0, t_r187_1, t_r187_2, t_r187_3, t_r210_0, t_r212_0, t_r214_1, t_r214_5, t_r214_6, t_r214_8, t_r214_10, t_a2, t_s2, t_a209, t_s209, t_a211, t_s211, t_a213, t_s213, t_a215, t_s215, t_a216, t_s216, t_a217, t_s217, t_a218, t_s218, t_a219, t_s219, t_a4, t_s4, zSt_sI, zSt_sF, zSt_zI, zSt_sJ, zSt_sD, zBo_0, zBo_1, hS, bd2_some, bdx_inl, bdx_inr, bdc_inl, bdc_inr, obd_some, hd', ↓reduceIte]
  rw [Bool.not_eq_false] at c3
  have hd' := hd_t hD c3
  obtain ⟨hr, hk⟩ := hD.2 c3
  have hok := hs.2.2.1 c3
  have hv := v_d hS
  have gn := hr.1.2.2
  have hn4 := hok.1.2
  by_cases c1 : m < nI 0 ∨ nI 2 ≤ m
  · rw [show o_genotype s m f g p = (nI 1, s) from if_pos (by rcases c1 with c | c; exact Or.inr (Or.inl c); exact Or.inr (Or.inr (Or.inl c)))]
    refine ⟨S, ?_, h, zCf_refl hS⟩
    simp only [F_L_genotype, F_X5_genotype, l_0, l_1, l_2, l_3, l_4, l_5, l_6, l_7, l_8, l_9, l_10, l_11, l_12, l_13, l_14, l_15, l_16, l_17, l_18, l_19, l_20, l_21, l_24, l_25, l_26, l_27, l_31, l_33, l_41, l_65, l_67, l_71, l_84, l_120, l_127, l_128, l_130, l_160, l_162, l_200, l_255, l_256, l_999, l_1000, l_8000, l_9999, l_10000, l_8001, l_m1, t_k0, t_g0, t_p0, t_z0, t_k1, t_g1, t_p1, t_z1, t_k3, t_g3, t_p3, t_z3, t_k187, t_g187, t_p187, t_z187, t_k210, t_g210, t_p210, t_z210, t_k212, t_g212, t_p212, t_z212, t_k214, t_g214, t_p214, t_z214, t_r0_0, t_r0_1, t_r0_2, t_r0_4, t_r0_5, t_r0_6, t_r0_7, t_r1_0, t_r3_0, t_r187_0, t_r187_1, t_r187_2, t_r187_3, t_r210_0, t_r212_0, t_r214_1, t_r214_5, t_r214_6, t_r214_8, t_r214_10, t_a2, t_s2, t_a209, t_s209, t_a211, t_s211, t_a213, t_s213, t_a215, t_s215, t_a216, t_s216, t_a217, t_s217, t_a218, t_s218, t_a219, t_s219, t_a4, t_s4, zSt_sI, zSt_sF, zSt_zI, zSt_sJ, zSt_sD, zBo_0, zBo_1, hS, bd2_some, bdx_inl, bdx_inr, bdc_inl, bdc_inr, obd_some, hd', ne10, ↓reduceIte, c_isSample, c1]
  by_cases c2 : f < m1 ∨ nI (aN (xR s)) ≤ f
  · rw [show o_genotype s m f g p = (nI 1, s) from if_pos (by rcases c2 with c | c; exact Or.inr (Or.inr (Or.inr (Or.inl c))); exact Or.inr (Or.inr (Or.inr (Or.inr (Or.inl c)))))]
    refine ⟨S, ?_, h, zCf_refl hS⟩
    simp only [F_L_genotype, F_X5_genotype, l_0, l_1, l_2, l_3, l_4, l_5, l_6, l_7, l_8, l_9, l_10, l_11, l_12, l_13, l_14, l_15, l_16, l_17, l_18, l_19, l_20, l_21, l_24, l_25, l_26, l_27, l_31, l_33, l_41, l_65, l_67, l_71, l_84, l_120, l_127, l_128, l_130, l_160, l_162, l_200, l_255, l_256, l_999, l_1000, l_8000, l_9999, l_10000, l_8001, l_m1, t_k0, t_g0, t_p0, t_z0, t_k1, t_g1, t_p1, t_z1, t_k3, t_g3, t_p3, t_z3, t_k187, t_g187, t_p187, t_z187, t_k210, t_g210, t_p210, t_z210, t_k212, t_g212, t_p212, t_z212, t_k214, t_g214, t_p214, t_z214, t_r0_0, t_r0_1, t_r0_2, t_r0_4, t_r0_5, t_r0_6, t_r0_7, t_r1_0, t_r3_0, t_r187_0, t_r187_1, t_r187_2, t_r187_3, t_r210_0, t_r212_0, t_r214_1, t_r214_5, t_r214_6, t_r214_8, t_r214_10, t_a2, t_s2, t_a209, t_s209, t_a211, t_s211, t_a213, t_s213, t_a215, t_s215, t_a216, t_s216, t_a217, t_s217, t_a218, t_s218, t_a219, t_s219, t_a4, t_s4, zSt_sI, zSt_sF, zSt_zI, zSt_sJ, zSt_sD, zBo_0, zBo_1, hS, bd2_some, bdx_inl, bdx_inr, bdc_inl, bdc_inr, obd_some, hd', ne10, ↓reduceIte, c_isSample, c1, v_pk hv, c_allows hv, gn, gen_bad c2 (by omega)]
  have c2' : ¬ f < m1 ∧ ¬ nI (aN (xR s)) ≤ f := ⟨fun e => c2 (Or.inl e), fun e => c2 (Or.inr e)⟩
  obtain ⟨-, f2, f3, f4⟩ := gen_of (by omega) c2'.1 c2'.2
  by_cases c4 : g < m1 ∨ nI (aN (xR s)) ≤ g
  · rw [show o_genotype s m f g p = (nI 1, s) from if_pos (Or.inr (Or.inr (Or.inr (Or.inr (Or.inr c4)))))]
    refine ⟨S, ?_, h, zCf_refl hS⟩
    simp only [F_L_genotype, F_X5_genotype, l_0, l_1, l_2, l_3, l_4, l_5, l_6, l_7, l_8, l_9, l_10, l_11, l_12, l_13, l_14, l_15, l_16, l_17, l_18, l_19, l_20, l_21, l_24, l_25, l_26, l_27, l_31, l_33, l_41, l_65, l_67, l_71, l_84, l_120, l_127, l_128, l_130, l_160, l_162, l_200, l_255, l_256, l_999, l_1000, l_8000, l_9999, l_10000, l_8001, l_m1, t_k0, t_g0, t_p0, t_z0, t_k1, t_g1, t_p1, t_z1, t_k3, t_g3, t_p3, t_z3, t_k187, t_g187, t_p187, t_z187, t_k210, t_g210, t_p210, t_z210, t_k212, t_g212, t_p212, t_z212, t_k214, t_g214, t_p214, t_z214, t_r0_0, t_r0_1, t_r0_2, t_r0_4, t_r0_5, t_r0_6, t_r0_7, t_r1_0, t_r3_0, t_r187_0, t_r187_1, t_r187_2, t_r187_3, t_r210_0, t_r212_0, t_r214_1, t_r214_5, t_r214_6, t_r214_8, t_r214_10, t_a2, t_s2, t_a209, t_s209, t_a211, t_s211, t_a213, t_s213, t_a215, t_s215, t_a216, t_s216, t_a217, t_s217, t_a218, t_s218, t_a219, t_s219, t_a4, t_s4, zSt_sI, zSt_sF, zSt_zI, zSt_sJ, zSt_sD, zBo_0, zBo_1, hS, bd2_some, bdx_inl, bdx_inr, bdc_inl, bdc_inr, obd_some, hd', ne10, ↓reduceIte, c_isSample, c1, v_pk hv, c_allows hv, gn, f2, gen_bad c4 (by omega)]
  have c4' : ¬ g < m1 ∧ ¬ nI (aN (xR s)) ≤ g := ⟨fun e => c4 (Or.inl e), fun e => c4 (Or.inr e)⟩
  obtain ⟨-, g2, g3, g4⟩ := gen_of (by omega) c4'.1 c4'.2
  obtain ⟨mn, rfl, -, b2⟩ := in_of' (by omega) (fun e => c1 (Or.inl e)) (fun e => c1 (Or.inr e)) (by omega)
  have t1 : tn (nI mn) = mn := tn_nI (by omega)
  have i1 : 2 * mn < 4 := by omega
  have i2 : 2 * mn + 1 < 4 := by omega
  have hp' : p = nI (tn p) := by
    rcases hp with e | e <;> subst e <;> rfl
  rw [show o_genotype s (nI mn) f g p = (nI 0, wDraft s true (aP (xR s), aQ (xR s), aN (xR s), aL (xR s), aB (xR s), aD (xR s), va_up (va_up (aG (xR s)) (2 * mn) (gN f)) (2 * mn + 1) (gN g), va_up (aH (xR s)) mn (tn p), aK (xR s))) from by
    unfold o_genotype
    rw [if_neg (by
      rw [c3]
      rintro (e | e | e | e | e | e)
      · cases e
      · exact c1 (Or.inl e)
      · exact c1 (Or.inr e)
      · exact c2 (Or.inl e)
      · exact c2 (Or.inr e)
      · exact c4 e), t1]]
  have hF : zFr (z + 173) (z + 173 + 7) S (sI (sI (sI S (z + 173 + 4) (2 * mn) f) (z + 173 + 4) (2 * mn + 1) g) (z + 173 + 5) mn p) := zFr_trans (zFr_trans (zFr_sI (by omega) (by omega)) (zFr_sI (by omega) (by omega))) (zFr_sI (by omega) (by omega))
  have hSa := zSt_Fr hF hS
  refine ⟨sI (sI (sI S (z + 173 + 4) (2 * mn) f) (z + 173 + 4) (2 * mn + 1) g) (z + 173 + 5) mn p, ?_, ?_, zCf_Fr hS hF (by omega)⟩
  · simp only [F_L_genotype, F_X5_genotype, l_0, l_1, l_2, l_3, l_4, l_5, l_6, l_7, l_8, l_9, l_10, l_11, l_12, l_13, l_14, l_15, l_16, l_17, l_18, l_19, l_20, l_21, l_24, l_25, l_26, l_27, l_31, l_33, l_41, l_65, l_67, l_71, l_84, l_120, l_127, l_128, l_130, l_160, l_162, l_200, l_255, l_256, l_999, l_1000, l_8000, l_9999, l_10000, l_8001, l_m1, t_k0, t_g0, t_p0, t_z0, t_k1, t_g1, t_p1, t_z1, t_k3, t_g3, t_p3, t_z3, t_k187, t_g187, t_p187, t_z187, t_k210, t_g210, t_p210, t_z210, t_k212, t_g212, t_p212, t_z212, t_k214, t_g214, t_p214, t_z214, t_r0_0, t_r0_1, t_r0_2, t_r0_4, t_r0_5, t_r0_6, t_r0_7, t_r1_0, t_r3_0, t_r187_0, t_r187_1, t_r187_2, t_r187_3, t_r210_0, t_r212_0, t_r214_1, t_r214_5, t_r214_6, t_r214_8, t_r214_10, t_a2, t_s2, t_a209, t_s209, t_a211, t_s211, t_a213, t_s213, t_a215, t_s215, t_a216, t_s216, t_a217, t_s217, t_a218, t_s218, t_a219, t_s219, t_a4, t_s4, zSt_sI, zSt_sF, zSt_zI, zSt_sJ, zSt_sD, zBo_0, zBo_1, hS, bd2_some, bdx_inl, bdx_inr, bdc_inl, bdc_inr, obd_some, hd', ne10, ↓reduceIte, v_pk, v_gI, v_pI, v_g3, v_a1, v_s1, v_g4, v_a2, v_s2, v_g5, v_a3, v_s3, v_g6, v_a4, v_s4, v_g7, v_a5, v_s5, v_g8, v_a6, v_s6, zVar_sI, zVar_sF, zVar_zI, zBo_0, zBo_1, hv, c_isSample, c1, c_allows hv, gn, f2, g2, nI_mul, nI_add, i1, i2, b2, hp]
  · refine zCl_draft hs h hSa (by rw [zFr_R hF]) (fun a h1 h2 h3 => hF.2 _ (by omega)) ⟨?_, fun _ => ⟨⟨⟨?_, ?_, ?_⟩, ?_, ?_, ?_, ?_⟩, ?_⟩⟩
    · rw [hF.2 z (by omega)]; exact hd'
    · simp [mI_sI]; exact hr.1.1
    · simp [mI_sI]; exact hr.1.2.1
    · simp [mI_sI]; exact hr.1.2.2
    · intro i hi
      simp [mI_sI]; exact hr.2.1 i hi
    · intro i hi
      have d1 : aG ((aP (xR s), aQ (xR s), aN (xR s), aL (xR s), aB (xR s), aD (xR s), va_up (va_up (aG (xR s)) (2 * mn) (gN f)) (2 * mn + 1) (gN g), va_up (aH (xR s)) mn (tn p), aK (xR s)) : Rc) i = if i = 2 * mn + 1 then gN g else if i = 2 * mn then gN f else aG (xR s) i := rfl
      rw [d1]
      by_cases q1 : i = 2 * mn + 1
      · simp [mI_sI, q1, g3]
      · by_cases q2 : i = 2 * mn
        · simp [mI_sI, q2, f3]
        · simp [mI_sI, q1, q2]; exact hr.2.2.1 i hi
    · intro i hi
      have d1 : aH ((aP (xR s), aQ (xR s), aN (xR s), aL (xR s), aB (xR s), aD (xR s), va_up (va_up (aG (xR s)) (2 * mn) (gN f)) (2 * mn + 1) (gN g), va_up (aH (xR s)) mn (tn p), aK (xR s)) : Rc) i = if i = mn then tn p else aH (xR s) i := rfl
      rw [d1]
      by_cases q1 : i = mn
      · simp [mI_sI, q1]; exact hp'
      · simp [mI_sI, q1]; exact hr.2.2.2.1 i hi
    · intro i hi
      simp [mI_sI]; exact hr.2.2.2.2 i hi
    · intro i hi
      simp [mI_sI]; exact hk i hi
theorem C_likelihood {m i q : Int32} (hs : xOk s) (h : zCl z s S) : ∃ S', F_L_likelihood z m i q S = some ((o_likelihood s m i q).1, S') ∧ zCl z (o_likelihood s m i q).2 S' ∧ zCf z S S' := by
  obtain ⟨hS, ⟨pp, hL⟩, hR, hD, hT⟩ := id h
  by_cases c3 : xD s = false
  · have hd' := hd_f hD c3
    rw [show o_likelihood s m i q = (nI 1, s) from if_pos (Or.inl c3)]
    refine ⟨S, ?_, h, zCf_refl hS⟩
    simp only [F_L_likelihood, F_X5_likelihood, l_0, l_1, l_2, l_3, l_4, l_5, l_6, l_7, l_8, l_9, l_10, l_11, l_12, l_13, l_14, l_15, l_16, l_17, l_18, l_19, l_20, l_21, l_24, l_25, l_26, l_27, l_31, l_33, l_41, l_65, l_67, l_71, l_84, l_120, l_127, l_128, l_130, l_160, l_162, l_200, l_255, l_256, l_999, l_1000, l_8000, l_9999, l_10000, l_8001, l_m1, t_k0, t_g0, t_p0, t_z0, t_k1, t_g1, t_p1, t_z1, t_k3, t_g3, t_p3, t_z3, t_k187, t_g187, t_p187, t_z187, t_k210, t_g210, t_p210, t_z210, t_k212, t_g212, t_p212, t_z212, t_k214, t_g214, t_p214, t_z214, t_r0_0, t_r0_1, t_r0_2, t_r0_4, t_r0_5, t_r0_6, t_r0_7, t_r1_0, t_r3_0, t_r187_0, t_r187_1, t_r187_2, t_r187_3, t_r210_0, t_r212_0, t_r214_1, t_r214_5, t_r214_6, t_r214_8, t_r214_10, t_a2, t_s2, t_a209, t_s209, t_a211, t_s211, t_a213, t_s213, t_a215, t_s215, t_a216, t_s216, t_a217, t_s217, t_a218, t_s218, t_a219, t_s219, t_a4, t_s4, zSt_sI, zSt_sF, zSt_zI, zSt_sJ, zSt_sD, zBo_0, zBo_1, hS, bd2_some, bdx_inl, bdx_inr, bdc_inl, bdc_inr, obd_some, hd', ↓reduceIte]
  rw [Bool.not_eq_false] at c3
  have hd' := hd_t hD c3
  obtain ⟨hr, hk⟩ := hD.2 c3
  have hok := hs.2.2.1 c3
  have hv := v_d hS
  have gn := hr.1.2.2
  have hn4 := hok.1.2
  have hp10 := prs_le hn4
  by_cases c1 : m < nI 0 ∨ nI 2 ≤ m
  · rw [show o_likelihood s m i q = (nI 1, s) from if_pos (by rcases c1 with c | c; exact Or.inr (Or.inl c); exact Or.inr (Or.inr (Or.inl c)))]
    refine ⟨S, ?_, h, zCf_refl hS⟩
    simp only [F_L_likelihood, F_X5_likelihood, l_0, l_1, l_2, l_3, l_4, l_5, l_6, l_7, l_8, l_9, l_10, l_11, l_12, l_13, l_14, l_15, l_16, l_17, l_18, l_19, l_20, l_21, l_24, l_25, l_26, l_27, l_31, l_33, l_41, l_65, l_67, l_71, l_84, l_120, l_127, l_128, l_130, l_160, l_162, l_200, l_255, l_256, l_999, l_1000, l_8000, l_9999, l_10000, l_8001, l_m1, t_k0, t_g0, t_p0, t_z0, t_k1, t_g1, t_p1, t_z1, t_k3, t_g3, t_p3, t_z3, t_k187, t_g187, t_p187, t_z187, t_k210, t_g210, t_p210, t_z210, t_k212, t_g212, t_p212, t_z212, t_k214, t_g214, t_p214, t_z214, t_r0_0, t_r0_1, t_r0_2, t_r0_4, t_r0_5, t_r0_6, t_r0_7, t_r1_0, t_r3_0, t_r187_0, t_r187_1, t_r187_2, t_r187_3, t_r210_0, t_r212_0, t_r214_1, t_r214_5, t_r214_6, t_r214_8, t_r214_10, t_a2, t_s2, t_a209, t_s209, t_a211, t_s211, t_a213, t_s213, t_a215, t_s215, t_a216, t_s216, t_a217, t_s217, t_a218, t_s218, t_a219, t_s219, t_a4, t_s4, zSt_sI, zSt_sF, zSt_zI, zSt_sJ, zSt_sD, zBo_0, zBo_1, hS, bd2_some, bdx_inl, bdx_inr, bdc_inl, bdc_inr, obd_some, hd', ne10, ↓reduceIte, c_isSample, c1]
  by_cases c2 : i < nI 0
  · rw [show o_likelihood s m i q = (nI 1, s) from if_pos (Or.inr (Or.inr (Or.inr (Or.inl c2))))]
    refine ⟨S, ?_, h, zCf_refl hS⟩
    simp only [F_L_likelihood, F_X5_likelihood, l_0, l_1, l_2, l_3, l_4, l_5, l_6, l_7, l_8, l_9, l_10, l_11, l_12, l_13, l_14, l_15, l_16, l_17, l_18, l_19, l_20, l_21, l_24, l_25, l_26, l_27, l_31, l_33, l_41, l_65, l_67, l_71, l_84, l_120, l_127, l_128, l_130, l_160, l_162, l_200, l_255, l_256, l_999, l_1000, l_8000, l_9999, l_10000, l_8001, l_m1, t_k0, t_g0, t_p0, t_z0, t_k1, t_g1, t_p1, t_z1, t_k3, t_g3, t_p3, t_z3, t_k187, t_g187, t_p187, t_z187, t_k210, t_g210, t_p210, t_z210, t_k212, t_g212, t_p212, t_z212, t_k214, t_g214, t_p214, t_z214, t_r0_0, t_r0_1, t_r0_2, t_r0_4, t_r0_5, t_r0_6, t_r0_7, t_r1_0, t_r3_0, t_r187_0, t_r187_1, t_r187_2, t_r187_3, t_r210_0, t_r212_0, t_r214_1, t_r214_5, t_r214_6, t_r214_8, t_r214_10, t_a2, t_s2, t_a209, t_s209, t_a211, t_s211, t_a213, t_s213, t_a215, t_s215, t_a216, t_s216, t_a217, t_s217, t_a218, t_s218, t_a219, t_s219, t_a4, t_s4, zSt_sI, zSt_sF, zSt_zI, zSt_sJ, zSt_sD, zBo_0, zBo_1, hS, bd2_some, bdx_inl, bdx_inr, bdc_inl, bdc_inr, obd_some, hd', ne10, ↓reduceIte, c_isSample, c1, c2]
  by_cases c4 : nI (prs (aN (xR s))) ≤ i
  · have c4' : ¬ i < nI (prs (aN (xR s))) := Int32.not_lt.mpr c4
    rw [show o_likelihood s m i q = (nI 1, s) from if_pos (Or.inr (Or.inr (Or.inr (Or.inr (Or.inl c4)))))]
    refine ⟨S, ?_, h, zCf_refl hS⟩
    simp only [F_L_likelihood, F_X5_likelihood, l_0, l_1, l_2, l_3, l_4, l_5, l_6, l_7, l_8, l_9, l_10, l_11, l_12, l_13, l_14, l_15, l_16, l_17, l_18, l_19, l_20, l_21, l_24, l_25, l_26, l_27, l_31, l_33, l_41, l_65, l_67, l_71, l_84, l_120, l_127, l_128, l_130, l_160, l_162, l_200, l_255, l_256, l_999, l_1000, l_8000, l_9999, l_10000, l_8001, l_m1, t_k0, t_g0, t_p0, t_z0, t_k1, t_g1, t_p1, t_z1, t_k3, t_g3, t_p3, t_z3, t_k187, t_g187, t_p187, t_z187, t_k210, t_g210, t_p210, t_z210, t_k212, t_g212, t_p212, t_z212, t_k214, t_g214, t_p214, t_z214, t_r0_0, t_r0_1, t_r0_2, t_r0_4, t_r0_5, t_r0_6, t_r0_7, t_r1_0, t_r3_0, t_r187_0, t_r187_1, t_r187_2, t_r187_3, t_r210_0, t_r212_0, t_r214_1, t_r214_5, t_r214_6, t_r214_8, t_r214_10, t_a2, t_s2, t_a209, t_s209, t_a211, t_s211, t_a213, t_s213, t_a215, t_s215, t_a216, t_s216, t_a217, t_s217, t_a218, t_s218, t_a219, t_s219, t_a4, t_s4, zSt_sI, zSt_sF, zSt_zI, zSt_sJ, zSt_sD, zBo_0, zBo_1, hS, bd2_some, bdx_inl, bdx_inr, bdc_inl, bdc_inr, obd_some, hd', ne10, ↓reduceIte, c_isSample, c1, c2, v_pk hv, c_pairs hv gn hn4, c4']
  have c4' : i < nI (prs (aN (xR s))) := Int32.not_le.mp c4
  by_cases c5 : q < nI 0 ∨ nI 999 < q
  · rw [show o_likelihood s m i q = (nI 1, s) from if_pos (Or.inr (Or.inr (Or.inr (Or.inr (Or.inr c5)))))]
    refine ⟨S, ?_, h, zCf_refl hS⟩
    simp only [F_L_likelihood, F_X5_likelihood, l_0, l_1, l_2, l_3, l_4, l_5, l_6, l_7, l_8, l_9, l_10, l_11, l_12, l_13, l_14, l_15, l_16, l_17, l_18, l_19, l_20, l_21, l_24, l_25, l_26, l_27, l_31, l_33, l_41, l_65, l_67, l_71, l_84, l_120, l_127, l_128, l_130, l_160, l_162, l_200, l_255, l_256, l_999, l_1000, l_8000, l_9999, l_10000, l_8001, l_m1, t_k0, t_g0, t_p0, t_z0, t_k1, t_g1, t_p1, t_z1, t_k3, t_g3, t_p3, t_z3, t_k187, t_g187, t_p187, t_z187, t_k210, t_g210, t_p210, t_z210, t_k212, t_g212, t_p212, t_z212, t_k214, t_g214, t_p214, t_z214, t_r0_0, t_r0_1, t_r0_2, t_r0_4, t_r0_5, t_r0_6, t_r0_7, t_r1_0, t_r3_0, t_r187_0, t_r187_1, t_r187_2, t_r187_3, t_r210_0, t_r212_0, t_r214_1, t_r214_5, t_r214_6, t_r214_8, t_r214_10, t_a2, t_s2, t_a209, t_s209, t_a211, t_s211, t_a213, t_s213, t_a215, t_s215, t_a216, t_s216, t_a217, t_s217, t_a218, t_s218, t_a219, t_s219, t_a4, t_s4, zSt_sI, zSt_sF, zSt_zI, zSt_sJ, zSt_sD, zBo_0, zBo_1, hS, bd2_some, bdx_inl, bdx_inr, bdc_inl, bdc_inr, obd_some, hd', ne10, ↓reduceIte, c_isSample, c1, c2, v_pk hv, c_pairs hv gn hn4, c4', c_within, c5]
  obtain ⟨mn, rfl, -, b2⟩ := in_of' (by omega) (fun e => c1 (Or.inl e)) (fun e => c1 (Or.inr e)) (by omega)
  obtain ⟨i', rfl, -, b3⟩ := in_of' (by omega) c2 c4 (by omega)
  obtain ⟨qn, rfl, -, b4⟩ := in_of (by omega) (fun e => c5 (Or.inl e)) (fun e => c5 (Or.inr e)) (by omega)
  have t1 : tn (nI mn) = mn := tn_nI (by omega)
  have t2 : tn (nI i') = i' := tn_nI (by omega)
  have t3 : tn (nI qn) = qn := tn_nI (by omega)
  have i1 : 10 * mn + i' < 20 := by omega
  rw [show o_likelihood s (nI mn) (nI i') (nI qn) = (nI 0, wDraft s true (aP (xR s), aQ (xR s), aN (xR s), aL (xR s), aB (xR s), aD (xR s), aG (xR s), aH (xR s), va_up (aK (xR s)) (10 * mn + i') qn)) from by
    unfold o_likelihood
    rw [if_neg (by
      rw [c3]
      rintro (e | e | e | e | e | e)
      · cases e
      · exact c1 (Or.inl e)
      · exact c1 (Or.inr e)
      · exact c2 e
      · exact c4 e
      · exact c5 e), t1, t2, t3]]
  have hF : zFr (z + 173) (z + 173 + 7) S (sI S (z + 173 + 6) (10 * mn + i') (nI qn)) := zFr_sI (by omega) (by omega)
  have hSa := zSt_Fr hF hS
  have dK : ∀ j, aK ((aP (xR s), aQ (xR s), aN (xR s), aL (xR s), aB (xR s), aD (xR s), aG (xR s), aH (xR s), va_up (aK (xR s)) (10 * mn + i') qn) : Rc) j = if j = 10 * mn + i' then qn else aK (xR s) j := fun j => rfl
  have hK : ∀ j, j < 20 → mI (sI S (z + 173 + 6) (10 * mn + i') (nI qn)) (z + 173 + 6) j = nI (if j = 10 * mn + i' then qn else aK (xR s) j) := by
    intro j hj
    by_cases c : j = 10 * mn + i'
    · simp [mI_sI, c]
    · simp [mI_sI, c]; exact hk j hj
  refine ⟨sI S (z + 173 + 6) (10 * mn + i') (nI qn), ?_, ?_, zCf_Fr hS hF (by omega)⟩
  · simp only [F_L_likelihood, F_X5_likelihood, l_0, l_1, l_2, l_3, l_4, l_5, l_6, l_7, l_8, l_9, l_10, l_11, l_12, l_13, l_14, l_15, l_16, l_17, l_18, l_19, l_20, l_21, l_24, l_25, l_26, l_27, l_31, l_33, l_41, l_65, l_67, l_71, l_84, l_120, l_127, l_128, l_130, l_160, l_162, l_200, l_255, l_256, l_999, l_1000, l_8000, l_9999, l_10000, l_8001, l_m1, t_k0, t_g0, t_p0, t_z0, t_k1, t_g1, t_p1, t_z1, t_k3, t_g3, t_p3, t_z3, t_k187, t_g187, t_p187, t_z187, t_k210, t_g210, t_p210, t_z210, t_k212, t_g212, t_p212, t_z212, t_k214, t_g214, t_p214, t_z214, t_r0_0, t_r0_1, t_r0_2, t_r0_4, t_r0_5, t_r0_6, t_r0_7, t_r1_0, t_r3_0, t_r187_0, t_r187_1, t_r187_2, t_r187_3, t_r210_0, t_r212_0, t_r214_1, t_r214_5, t_r214_6, t_r214_8, t_r214_10, t_a2, t_s2, t_a209, t_s209, t_a211, t_s211, t_a213, t_s213, t_a215, t_s215, t_a216, t_s216, t_a217, t_s217, t_a218, t_s218, t_a219, t_s219, t_a4, t_s4, zSt_sI, zSt_sF, zSt_zI, zSt_sJ, zSt_sD, zBo_0, zBo_1, hS, bd2_some, bdx_inl, bdx_inr, bdc_inl, bdc_inr, obd_some, hd', ne10, ↓reduceIte, v_pk, v_gI, v_pI, v_g3, v_a1, v_s1, v_g4, v_a2, v_s2, v_g5, v_a3, v_s3, v_g6, v_a4, v_s4, v_g7, v_a5, v_s5, v_g8, v_a6, v_s6, zVar_sI, zVar_sF, zVar_zI, zBo_0, zBo_1, hv, c_isSample, c1, c2, c_pairs hv gn hn4, c4', c_within, c5, nI_mul, nI_add, i1]
  · refine zCl_draft hs h hSa (by rw [zFr_R hF]) (fun a h1 h2 h3 => hF.2 _ (by omega)) ⟨?_, fun _ => ⟨⟨⟨?_, ?_, ?_⟩, ?_, ?_, ?_, ?_⟩, ?_⟩⟩
    · rw [hF.2 z (by omega)]; exact hd'
    · simp [mI_sI]; exact hr.1.1
    · simp [mI_sI]; exact hr.1.2.1
    · simp [mI_sI]; exact hr.1.2.2
    · intro j hj
      simp [mI_sI]; exact hr.2.1 j hj
    · intro j hj
      simp [mI_sI]; exact hr.2.2.1 j hj
    · intro j hj
      simp [mI_sI]; exact hr.2.2.2.1 j hj
    · intro j hj
      have hj' : j < prs (aN (xR s)) := hj
      rw [dK, dK]
      exact ⟨hK j (by omega), hK (10 + j) (by omega)⟩
    · intro j hj
      rw [dK]
      exact hK j hj
end C3
