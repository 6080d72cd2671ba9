set_option maxRecDepth 20000
section C15
variable {S S' S1 S2 : Mem} {z v n a lo hi o k i A f N : Nat} {r : Rc} {s : As} {t : List Nat}
theorem c_takeAl {p q : Nat} {rf : Nat → Nat} (ht : t.length ≤ 120) (hb : ∀ b, b ∈ t → b < 256) (h4 : ∀ i, rf i < 4) (hp : p ≤ 160) (hq : q < 65536) (hr : zRd z t S i) (g0 : mI S (z + 180) 2 = nI 0) (hR : zRf z S p rf) (hq0 : mI S (z + 180) 0 = nI q) :
    (∀ i' L' B', 2 ≤ pb t i → pb t i ≤ 4 → pAl t (pb t i) 0 (i + 1) (fun _ => 0) (fun _ => 0) = some (i', L', B') → (1 ≤ q ∧ q + L' 0 ≤ p + 1 ∧ B' 0 = rn rf q (L' 0)) → ∃ S', F_X0_takeAlleles (z + 210) (z + 180) (z + 1) S = some (nI 1, S') ∧ zRf2 z S S' ∧ zRd z t S' i' ∧ zRa z S' (pb t i) L' B' ∧ mI S' (z + 180) 0 = mI S (z + 180) 0 ∧ mI S' (z + 180) 1 = mI S (z + 180) 1 ∧ ∀ u, 4 ≤ u → u < 7 → mI S' (z + 180 + u) = mI S (z + 180 + u)) ∧
    ((¬ (2 ≤ pb t i ∧ pb t i ≤ 4) ∨ (pAl t (pb t i) 0 (i + 1) (fun _ => 0) (fun _ => 0) = none ∨ ∃ i' L' B', pAl t (pb t i) 0 (i + 1) (fun _ => 0) (fun _ => 0) = some (i', L', B') ∧ ¬ (1 ≤ q ∧ q + L' 0 ≤ p + 1 ∧ B' 0 = rn rf q (L' 0)))) → ∃ S', F_X0_takeAlleles (z + 210) (z + 180) (z + 1) S = some (nI 0, S') ∧ zRf2 z S S') := by
  obtain ⟨S1, a1, a2, a3⟩ := c_take ht hr
  have hS := hr.1
  have xlt := pb_lt hb i
  have k180 := a2.1.2 (z + 180) (by omega)
  by_cases c1 : pb t i < 2
  · have c1' : nI (pb t i) < nI 2 := nI_lt c1 (by omega)
    refine ⟨fun _ _ _ h1 _ => absurd c1 (by omega), fun _ => ⟨S1, ?_, zTk_rf a2⟩⟩
    simp only [F_X0_takeAlleles, l_0, l_1, l_2, l_3, l_4, l_5, l_6, l_7, l_8, l_9, l_10, l_11, l_12, l_13, l_14, l_15, l_16, l_17, l_18, l_19, l_20, l_21, l_24, l_25, l_26, l_27, l_31, l_33, l_41, l_65, l_67, l_71, l_84, l_120, l_127, l_128, l_130, l_160, l_162, l_200, l_255, l_256, l_999, l_1000, l_8000, l_9999, l_10000, l_8001, l_m1, t_k210 hS, a1, c1', bd2_some, bdx_inl, bdx_inr, bdc_inl, bdc_inr, obd_some, ↓reduceIte]
  have c1' : ¬ nI (pb t i) < nI 2 := nI_nlt (by omega) (by omega)
  by_cases c2 : pb t i ≤ 4
  · have c2' : nI (pb t i) ≤ nI 4 := nI_le c2 (by omega)
    have st : F_X0_takeAlleles (z + 210) (z + 180) (z + 1) S = F_X0_takeAlleles_L20 FU (z + 210) (z + 180) (z + 1) (nI (pb t i)) (nI 0) S1 := by
      rw [F_X0_takeAlleles, t_k210 hS, obd_some, a1, bd2_some]
      show (if nI (pb t i) < nI 2 then _ else _) = _
      rw [if_neg c1']
      show (if nI (pb t i) ≤ nI 4 then _ else _) = _
      rw [if_pos c2']
      rfl
    have M := c_al_L (p := p) (q := q) (rf := rf) (n := pb t i) ht hb h4 hp (by omega) c2 hq (pb t i) FU 0 (i + 1) (fun _ => 0) (fun _ => 0) S1 a3 ⟨by rw [k180]; exact g0, fun j hj => by omega⟩ ⟨by rw [a2.1.2 _ (by omega)]; exact hR.1, fun j hj => by rw [a2.1.2 _ (by omega)]; exact hR.2 j hj⟩ (by rw [k180]; exact hq0) (by omega) (by show pb t i < 4000; omega)
    rw [st]
    refine ⟨fun i' L' B' _ _ e hh => ?_, fun hh => ?_⟩
    · obtain ⟨S2, q1, q2, q3, q4, q5, q6, q7⟩ := M.1 i' L' B' e hh
      exact ⟨S2, q1, zRf2_trans (zTk_rf a2) q2, q3, q4, by rw [q5, k180], by rw [q6, k180], fun u h1 h2 => by rw [q7 u h1 h2, a2.1.2 _ (by omega)]⟩
    · rcases hh with hh | hh
      · exact absurd ⟨by omega, c2⟩ hh
      · obtain ⟨S2, q1, q2⟩ := M.2 hh
        exact ⟨S2, q1, zRf2_trans (zTk_rf a2) q2⟩
  · have c2' : ¬ nI (pb t i) ≤ nI 4 := nI_ge (by omega) (by omega)
    refine ⟨fun _ _ _ _ h1 => absurd h1 c2, fun _ => ⟨S1, ?_, zTk_rf a2⟩⟩
    simp only [F_X0_takeAlleles, l_0, l_1, l_2, l_3, l_4, l_5, l_6, l_7, l_8, l_9, l_10, l_11, l_12, l_13, l_14, l_15, l_16, l_17, l_18, l_19, l_20, l_21, l_24, l_25, l_26, l_27, l_31, l_33, l_41, l_65, l_67, l_71, l_84, l_120, l_127, l_128, l_130, l_160, l_162, l_200, l_255, l_256, l_999, l_1000, l_8000, l_9999, l_10000, l_8001, l_m1, t_k210 hS, a1, c1', c2', bd2_some, bdx_inl, bdx_inr, bdc_inl, bdc_inr, obd_some, ↓reduceIte]
/-- one sample -/
theorem c_smp {m fu : Nat} (ht : t.length ≤ 120) (hb : ∀ b, b ∈ t → b < 256) (hm : m < 2) (hr : zRd z t S i) (gn : mI S (z + 180) 2 = nI n) (hn : n ≤ 4) :
    ((pb t (i + 1) / 2 ≤ n ∧ pb t (i + 2) / 2 ≤ n) ∧ (∀ k, k < prs n → pRw t (i + 3) k ≤ 999) → ∃ S', F_X0_takeVariant_L71 (fu + 1) (z + 210) (z + 180) (nI m) S = F_X0_takeVariant_L71 fu (z + 210) (z + 180) (nI (m + 1)) S' ∧ zRf2 z S S' ∧ zRd z t S' (pNx t (i + 3) (prs n)) ∧ (∀ b, b ≠ z + 180 + 4 → b ≠ z + 180 + 5 → b ≠ z + 180 + 6 → b ≠ z + 210 → mI S' b = mI S b) ∧ mI S' (z + 180 + 4) (2 * m) = gI (pb t (i + 1) / 2) ∧ mI S' (z + 180 + 4) (2 * m + 1) = gI (pb t (i + 2) / 2) ∧ mI S' (z + 180 + 5) m = nI (pb t (i + 1) % 2) ∧ (∀ k, k ≠ 2 * m → k ≠ 2 * m + 1 → mI S' (z + 180 + 4) k = mI S (z + 180 + 4) k) ∧ (∀ k, k ≠ m → mI S' (z + 180 + 5) k = mI S (z + 180 + 5) k) ∧ (∀ k, k < prs n → mI S' (z + 180 + 6) (10 * m + k) = nI (pRw t (i + 3) k)) ∧ ∀ k, (k < 10 * m ∨ 10 * m + 10 ≤ k) → mI S' (z + 180 + 6) k = mI S (z + 180 + 6) k) ∧
    (¬ ((pb t (i + 1) / 2 ≤ n ∧ pb t (i + 2) / 2 ≤ n) ∧ ∀ k, k < prs n → pRw t (i + 3) k ≤ 999) → ∃ S', F_X0_takeVariant_L71 (fu + 1) (z + 210) (z + 180) (nI m) S = some (nI 0, S') ∧ zRf2 z S S') := by
  have hS := hr.1
  have c0 : ¬ nI 2 ≤ nI m := nI_ge (by omega) (by omega)
  obtain ⟨S1, a1, a2, a3, a4, a5, a6, a7, a8, a9⟩ := c_tkG ht hb hm hr gn hn
  have hS1 := a3.1
  have hv1 := v_sc hS1
  have p10 := prs_le hn
  have gn1 : mI S1 (z + 180) 2 = nI n := by rw [a4 _ (by omega) (by omega) (by omega)]; exact gn
  have hpr := c_pairs hv1 gn1 hn
  by_cases c : pb t (i + 1) / 2 ≤ n ∧ pb t (i + 2) / 2 ≤ n
  · rw [if_pos c] at a1
    obtain ⟨M1, M2⟩ := c_tkN (A := z + 180 + 6) (f := 10 * m) (n := prs n) (N := 20) (most := 999) ht hb (by omega) (by omega) (by omega) (by omega) (by omega) a3 hv1.2.2.2.2.2.2.2.1 hv1.2.2.2.2.2.2.2.2
    by_cases c2 : ∀ k, k < prs n → pRw t (i + 3) k ≤ 999
    · obtain ⟨S2, b1, b2, b3, b4⟩ := M1 c2
      refine ⟨fun _ => ⟨S2, ?_, zRf2_trans a2 (zFA_rf (by omega) (by omega) b2), b3, fun b h1 h2 h3 h4 => by rw [b2.2.1 b h3 h4, a4 b h1 h2 h4], ?_, ?_, ?_, ?_, ?_, b4, ?_⟩, fun q => absurd ⟨c, c2⟩ q⟩
      · simp only [F_X0_takeVariant_L71, l_0, l_1, l_2, l_3, l_4, l_5, l_6, l_7, l_8, l_9, l_10, l_11, l_12, l_13, l_14, l_15, l_16, l_17, l_18, l_19, l_20, l_21, l_24, l_25, l_26, l_27, l_31, l_33, l_41, l_65, l_67, l_71, l_84, l_120, l_127, l_128, l_130, l_160, l_162, l_200, l_255, l_256, l_999, l_1000, l_8000, l_9999, l_10000, l_8001, l_m1, t_k210 hS, t_k210 hS1, c0, a1, ne10, v_g8 hv1, v_pk hv1, hpr, nI_mul, b1, bd2_some, bdx_inl, bdx_inr, bdc_inl, bdc_inr, obd_some, ↓reduceIte, nI_add]
      · rw [b2.2.1 _ (by omega) (by omega)]; exact a5
      · rw [b2.2.1 _ (by omega) (by omega)]; exact a6
      · rw [b2.2.1 _ (by omega) (by omega)]; exact a7
      · intro k h1 h2
        rw [b2.2.1 _ (by omega) (by omega)]; exact a8 k h1 h2
      · intro k h1
        rw [b2.2.1 _ (by omega) (by omega)]; exact a9 k h1
      · intro k hk
        rw [b2.2.2.1 k (by omega), a4 _ (by omega) (by omega) (by omega)]
    · obtain ⟨S2, b1, b2⟩ := M2 c2
      refine ⟨fun q => absurd q.2 c2, fun _ => ⟨S2, ?_, zRf2_trans a2 b2⟩⟩
      simp only [F_X0_takeVariant_L71, l_0, l_1, l_2, l_3, l_4, l_5, l_6, l_7, l_8, l_9, l_10, l_11, l_12, l_13, l_14, l_15, l_16, l_17, l_18, l_19, l_20, l_21, l_24, l_25, l_26, l_27, l_31, l_33, l_41, l_65, l_67, l_71, l_84, l_120, l_127, l_128, l_130, l_160, l_162, l_200, l_255, l_256, l_999, l_1000, l_8000, l_9999, l_10000, l_8001, l_m1, t_k210 hS, t_k210 hS1, c0, a1, ne10, v_g8 hv1, v_pk hv1, hpr, nI_mul, b1, bd2_some, bdx_inl, bdx_inr, bdc_inl, bdc_inr, obd_some, ↓reduceIte]
  · rw [if_neg c] at a1
    refine ⟨fun q => absurd q.1 c, fun _ => ⟨S1, ?_, a2⟩⟩
    simp only [F_X0_takeVariant_L71, l_0, l_1, l_2, l_3, l_4, l_5, l_6, l_7, l_8, l_9, l_10, l_11, l_12, l_13, l_14, l_15, l_16, l_17, l_18, l_19, l_20, l_21, l_24, l_25, l_26, l_27, l_31, l_33, l_41, l_65, l_67, l_71, l_84, l_120, l_127, l_128, l_130, l_160, l_162, l_200, l_255, l_256, l_999, l_1000, l_8000, l_9999, l_10000, l_8001, l_m1, t_k210 hS, c0, a1, bd2_some, bdx_inl, bdx_inr, bdc_inl, bdc_inr, obd_some, ↓reduceIte]
end C15
