set_option maxRecDepth 20000
/-! The class joins. -/
section C9
variable {S S' S1 S2 : Mem} {z v w n a lo hi o k : Nat} {r ot x y : Rc} {s : As}
theorem dif8F : ∀ a b : Fin 9, (nI 0 < nI a.val - nI b.val) ↔ b.val < a.val := by decide +kernel
theorem dif8 {a b : Nat} (ha : a ≤ 8) (hb : b ≤ 8) : (nI 0 < nI a - nI b) ↔ b < a := dif8F ⟨a, by omega⟩ ⟨b, by omega⟩
theorem c_len_L {mr tl : Nat} {L B : Nat → Nat} (hm : mr ≤ 7) (ht : tl < 4 ^ mr) : ∀ (m fu j : Nat) (S : Mem), zPs S v n j L B (fun i => L i + mr) (fun i => B i * 4 ^ mr + tl) → j + m = n → m < fu →
    ∃ S', F_X4_lengthenLike_L34 fu v (nI mr) (nI tl) (nI j) S = some S' ∧ zFr (v + 1) (v + 3) S S' ∧ zPs S' v n n L B (fun i => L i + mr) (fun i => B i * 4 ^ mr + tl) := by
  intro m
  induction m with
  | zero =>
    intro fu j S h hj hf
    obtain ⟨fu, rfl⟩ : ∃ f, fu = f + 1 := ⟨fu - 1, by omega⟩
    have h4 := h.2.2.1
    have c1 : nI n ≤ nI j := nI_le (by omega) (by omega)
    have e : j = n := by omega
    refine ⟨S, ?_, zFr_refl, by rw [← e]; rw [← e] at h; exact h⟩
    simp only [F_X4_lengthenLike_L34, l_0, l_1, l_2, l_3, l_4, l_5, l_6, l_7, l_8, l_9, l_10, l_11, l_12, l_13, l_14, l_15, l_16, l_17, l_18, l_19, l_20, l_21, l_24, l_25, l_26, l_27, l_31, l_33, l_41, l_65, l_67, l_71, l_84, l_120, l_127, l_128, l_130, l_160, l_162, l_200, l_255, l_256, l_999, l_1000, l_8000, l_9999, l_10000, l_8001, l_m1, v_gI h.1, h.2.1, c1, bd2_some, bdx_inl, bdx_inr, bdc_inl, bdc_inr, obd_some, ↓reduceIte]
  | succ m ih =>
    intro fu j S h hj hf
    obtain ⟨fu, rfl⟩ : ∃ f, fu = f + 1 := ⟨fu - 1, by omega⟩
    obtain ⟨hv, gn, h4, hA, hB⟩ := id h
    have c1 : ¬ nI n ≤ nI j := nI_ge (by omega) (by omega)
    obtain ⟨f1, f2, f3, f4⟩ := hB j (Nat.le_refl _) (by omega)
    have j4 : j < 4 := by omega
    have n1 : (v + 2 = v + 1) = False := eq_false (by omega)
    have q : (nI (B j) <<< (nI (2 * mr) &&& nI 31)) ||| nI tl = nI (B j * 4 ^ mr + tl) := by
      rw [b_31 (by omega), b_shl (by omega), ← four_two]
      exact b_orAdd (by rw [four_two]; exact ht)
    obtain ⟨S', q1, q2, q3⟩ := ih fu (j + 1) _ (zPs_s h (by omega)) (by omega) (by omega)
    refine ⟨S', ?_, zFr_trans zFr_2 q2, q3⟩
    simp only [F_X4_lengthenLike_L34, l_0, l_1, l_2, l_3, l_4, l_5, l_6, l_7, l_8, l_9, l_10, l_11, l_12, l_13, l_14, l_15, l_16, l_17, l_18, l_19, l_20, l_21, l_24, l_25, l_26, l_27, l_31, l_33, l_41, l_65, l_67, l_71, l_84, l_120, l_127, l_128, l_130, l_160, l_162, l_200, l_255, l_256, l_999, l_1000, l_8000, l_9999, l_10000, l_8001, l_m1, v_pk, v_gI, v_pI, v_g3, v_a1, v_s1, v_g4, v_a2, v_s2, v_g5, v_a3, v_s3, v_g6, v_a4, v_s4, v_g7, v_a5, v_s5, v_g8, v_a6, v_s6, zVar_sI, zVar_sF, zVar_zI, zBo_0, zBo_1, hv, gn, c1, j4, f1, f2, nI_mul, q, nI_add, bd2_some, bdx_inl, bdx_inr, bdc_inl, bdc_inr, obd_some, ↓reduceIte, mI_sI, n1, false_and]
    exact q1
theorem c_len {p : Nat} {rf : Nat → Nat} (hv : zVar S v) (hw : zVar S w) (hr : zCR S v r) (ho : zCR S w ot) (h : aOk p rf r) (h' : aOk p rf ot) : ∃ S', F_X4_lengthenLike v w S = some S' ∧ zFr v (v + 7) S S' ∧ zCR S' v (wAl r (aP r) (jL r ot) (jB r ot)) := by
  have hA := zAl_ok hv hr h
  have hn := h.1.1
  have hn' := h'.1.1
  have hn4 := h.1.2
  have e1 := v_a2 hw (show 0 < 4 by omega)
  have e2 := v_a2 hv (show 0 < 4 by omega)
  have e3 := v_a1 hw (show 0 < 4 by omega)
  obtain ⟨b1, b2, -⟩ := ho.2.1 0 (by omega)
  obtain ⟨d1, d2, -⟩ := hr.2.1 0 (by omega)
  have l1 := (h.2.1.1 0 (by omega)).2.1
  have l2 := (h'.2.1.1 0 (by omega)).2.1
  have l0 := (h.2.1.1 0 (by omega)).1
  have dd := dif8 l2 l1
  by_cases c : aL r 0 < aL ot 0
  · have c' : nI 0 < nI (aL ot 0) - nI (aL r 0) := dd.mpr c
    have e4 : nI (aL ot 0) - nI (aL r 0) = nI (aL ot 0 - aL r 0) := nI_sub (by omega)
    have c'' : nI 0 < nI (aL ot 0 - aL r 0) := by rw [← e4]; exact c'
    have q : F_X5_lowBases (nI (aL ot 0 - aL r 0)) S = some (nI (4 ^ (aL ot 0 - aL r 0) - 1), S) := by
      simp only [F_X5_lowBases, l_0, l_1, l_2, l_3, l_4, l_5, l_6, l_7, l_8, l_9, l_10, l_11, l_12, l_13, l_14, l_15, l_16, l_17, l_18, l_19, l_20, l_21, l_24, l_25, l_26, l_27, l_31, l_33, l_41, l_65, l_67, l_71, l_84, l_120, l_127, l_128, l_130, l_160, l_162, l_200, l_255, l_256, l_999, l_1000, l_8000, l_9999, l_10000, l_8001, l_m1, nI_mul, b_low (show aL ot 0 - aL r 0 < 16 by omega)]
    obtain ⟨S1, q1, q2, q3⟩ := c_len_L (v := v) (mr := aL ot 0 - aL r 0) (tl := aB ot 0 % 4 ^ (aL ot 0 - aL r 0)) (by omega) (Nat.mod_lt _ (p4_pos _)) (aN r) FU 0 S (zPs_0 hA) (by omega) (by show aN r < 4000; omega)
    refine ⟨S1, ?_, zFr_mono q2 (by omega) (by omega), ?_⟩
    · simp only [F_X4_lengthenLike, l_0, l_1, l_2, l_3, l_4, l_5, l_6, l_7, l_8, l_9, l_10, l_11, l_12, l_13, l_14, l_15, l_16, l_17, l_18, l_19, l_20, l_21, l_24, l_25, l_26, l_27, l_31, l_33, l_41, l_65, l_67, l_71, l_84, l_120, l_127, l_128, l_130, l_160, l_162, l_200, l_255, l_256, l_999, l_1000, l_8000, l_9999, l_10000, l_8001, l_m1, v_g4 hw, v_g4 hv, v_g3 hw, e1, e2, e3, b1, b2, d2, e4, c'', q, b_andLow, bd2_some, bdx_inl, bdx_inr, bdc_inl, bdc_inr, obd_some, ↓reduceIte]
      exact q1
    · refine zCR_al hr ?_ ?_ ?_ (fun t h1 h2 => q2.2 _ (by omega)) (fun i hi => q3.2.2.2.1 i hi)
      · rw [q2.2 v (by omega)]; exact hr.1.1
      · rw [q2.2 v (by omega)]
      · rw [q2.2 v (by omega)]
  · have c' : ¬ nI 0 < nI (aL ot 0) - nI (aL r 0) := fun q => c (dd.mp q)
    refine ⟨S, ?_, zFr_refl, ?_⟩
    · simp only [F_X4_lengthenLike, l_0, l_1, l_2, l_3, l_4, l_5, l_6, l_7, l_8, l_9, l_10, l_11, l_12, l_13, l_14, l_15, l_16, l_17, l_18, l_19, l_20, l_21, l_24, l_25, l_26, l_27, l_31, l_33, l_41, l_65, l_67, l_71, l_84, l_120, l_127, l_128, l_130, l_160, l_162, l_200, l_255, l_256, l_999, l_1000, l_8000, l_9999, l_10000, l_8001, l_m1, v_g4 hw, v_g4 hv, v_g3 hw, e1, e2, b2, d2, c', bd2_some, bdx_inl, bdx_inr, bdc_inl, bdc_inr, obd_some, ↓reduceIte]
    · refine zCR_al hr hr.1.1 rfl rfl (fun _ _ _ => rfl) (fun i hi => ?_)
      have z0 : aL ot 0 - aL r 0 = 0 := by omega
      unfold jB jL
      rw [z0, Nat.pow_zero, Nat.mul_one, Nat.mod_one, Nat.add_zero, Nat.add_zero]
      exact ⟨(hr.2.1 i hi).1, (hr.2.1 i hi).2.1⟩
theorem c_tooL_L {L : Nat → Nat} (hv : zVar S v) (gn : mI S v 2 = nI n) (h4 : n ≤ 4) (hA : ∀ i, i < n → mI S (v + 2) i = nI (L i) ∧ L i ≤ 100) : ∀ (m fu j : Nat), (∀ i, i < j → ¬ 8 < L i) → j + m = n → m < fu →
    F_X4_hasTooLongAllele_L2 fu v (nI j) S = some (if ∃ i, i < n ∧ 8 < L i then nI 1 else nI 0, S) := by
  intro m
  induction m with
  | zero =>
    intro fu j hi hj hf
    obtain ⟨fu, rfl⟩ : ∃ f, fu = f + 1 := ⟨fu - 1, by omega⟩
    have c1 : nI n ≤ nI j := nI_le (by omega) (by omega)
    have c2 : ¬ ∃ i, i < n ∧ 8 < L i := by
      rintro ⟨i, h1, h2⟩
      exact hi i (by omega) h2
    simp only [F_X4_hasTooLongAllele_L2, l_0, l_1, l_2, l_3, l_4, l_5, l_6, l_7, l_8, l_9, l_10, l_11, l_12, l_13, l_14, l_15, l_16, l_17, l_18, l_19, l_20, l_21, l_24, l_25, l_26, l_27, l_31, l_33, l_41, l_65, l_67, l_71, l_84, l_120, l_127, l_128, l_130, l_160, l_162, l_200, l_255, l_256, l_999, l_1000, l_8000, l_9999, l_10000, l_8001, l_m1, v_gI hv, gn, c1, c2, bd2_some, bdx_inl, bdx_inr, bdc_inl, bdc_inr, obd_some, ↓reduceIte]
  | succ m ih =>
    intro fu j hi hj hf
    obtain ⟨fu, rfl⟩ : ∃ f, fu = f + 1 := ⟨fu - 1, by omega⟩
    have c1 : ¬ nI n ≤ nI j := nI_ge (by omega) (by omega)
    have e1 := v_a2 hv (show j < 4 by omega)
    obtain ⟨f1, f2⟩ := hA j (by omega)
    by_cases c : L j ≤ 8
    · have c' : nI (L j) ≤ nI 8 := nI_le c (by omega)
      simp only [F_X4_hasTooLongAllele_L2, l_0, l_1, l_2, l_3, l_4, l_5, l_6, l_7, l_8, l_9, l_10, l_11, l_12, l_13, l_14, l_15, l_16, l_17, l_18, l_19, l_20, l_21, l_24, l_25, l_26, l_27, l_31, l_33, l_41, l_65, l_67, l_71, l_84, l_120, l_127, l_128, l_130, l_160, l_162, l_200, l_255, l_256, l_999, l_1000, l_8000, l_9999, l_10000, l_8001, l_m1, v_gI hv, v_g4 hv, gn, c1, e1, f1, c', bd2_some, bdx_inl, bdx_inr, bdc_inl, bdc_inr, obd_some, ↓reduceIte, nI_add]
      refine ih fu (j + 1) (fun i hh => ?_) (by omega) (by omega)
      by_cases e : i = j
      · subst e; omega
      · exact hi i (by omega)
    · have c' : ¬ nI (L j) ≤ nI 8 := nI_ge (by omega) (by omega)
      have c2 : ∃ i, i < n ∧ 8 < L i := ⟨j, by omega, by omega⟩
      simp only [F_X4_hasTooLongAllele_L2, l_0, l_1, l_2, l_3, l_4, l_5, l_6, l_7, l_8, l_9, l_10, l_11, l_12, l_13, l_14, l_15, l_16, l_17, l_18, l_19, l_20, l_21, l_24, l_25, l_26, l_27, l_31, l_33, l_41, l_65, l_67, l_71, l_84, l_120, l_127, l_128, l_130, l_160, l_162, l_200, l_255, l_256, l_999, l_1000, l_8000, l_9999, l_10000, l_8001, l_m1, v_gI hv, v_g4 hv, gn, c1, e1, f1, c', c2, bd2_some, bdx_inl, bdx_inr, bdc_inl, bdc_inr, obd_some, ↓reduceIte]
theorem c_tooL {L : Nat → Nat} (hv : zVar S v) (gn : mI S v 2 = nI n) (h4 : n ≤ 4) (hA : ∀ i, i < n → mI S (v + 2) i = nI (L i) ∧ L i ≤ 100) : F_X4_hasTooLongAllele v S = some (if ∃ i, i < n ∧ 8 < L i then nI 1 else nI 0, S) :=
  c_tooL_L hv gn h4 hA n FU 0 (fun i hi => by omega) (by omega) (by show n < 4000; omega)
/-- the joined record as it grows -/
def zJn (z : Nat) (S : Mem) (n : Nat) (L B D : Nat → Nat) : Prop := mI S (z + 202) 2 = nI n ∧ n ≤ 4 ∧ ∀ i, i < n → mI S (z + 202 + 1) i = nI (B i) ∧ mI S (z + 202 + 2) i = nI (L i) ∧ mI S (z + 202 + 3) i = nI (D i) ∧ B i < 2147483648 ∧ L i < 2147483648
def zJf (z : Nat) (S S' : Mem) : Prop := zFr (z + 202) (z + 210) S S' ∧ mI S' (z + 202) 0 = mI S (z + 202) 0
theorem zJf_trans (h : zJf z S S1) (h' : zJf z S1 S2) : zJf z S S2 := ⟨zFr_trans h.1 h'.1, h'.2.trans h.2⟩
theorem c_uA_L {n1 : Nat} {Lx Bx : Nat → Nat} (hy4 : aN y ≤ 4) (hyB : ∀ i, i < aN y → aB y i < 2147483648 ∧ aL y i < 2147483648) (hyd : ∀ i j, i < aN y → j < aN y → aL y i = aL y j → aB y i = aB y j → i = j) : ∀ (m fu a n : Nat) (L B w D : Nat → Nat) (S : Mem), zSt z S → zCR S (z + 195) y → zJn z S n L B D → (∀ i, i < a → mI S (z + 209) i = nI (w i)) → jInv n1 Lx Bx (aL y) (aB y) a n L B w → (∀ b, b < a → n1 ≤ w b → D (w b) = aD y b) → a + m = aN y → m < fu →
    (jAdd (aL y) (aB y) m a n L B w = none → ∃ S', F_X1_uniteAlleles_L2 fu (z + 187) (nI a) S = some (nI 0, S') ∧ zJf z S S') ∧
    ∀ t, jAdd (aL y) (aB y) m a n L B w = some t → ∃ S' D', F_X1_uniteAlleles_L2 fu (z + 187) (nI a) S = some (nI 1, S') ∧ zJf z S S' ∧ zJn z S' t.1 t.2.1 t.2.2.1 D' ∧ (∀ i, i < aN y → mI S' (z + 209) i = nI (t.2.2.2 i)) ∧ (∀ i, i < n1 → D' i = D i) ∧ ∀ b, b < aN y → n1 ≤ t.2.2.2 b → D' (t.2.2.2 b) = aD y b := by
  intro m
  induction m with
  | zero =>
    intro fu a n L B w D S hS hy hJ hW hI hD ha hf
    obtain ⟨fu, rfl⟩ : ∃ f, fu = f + 1 := ⟨fu - 1, by omega⟩
    have c1 : nI (aN y) ≤ nI a := nI_le (by omega) (by omega)
    have ea : a = aN y := by omega
    subst ea
    refine ⟨fun e => (by cases e), fun t e => ?_⟩
    cases e
    refine ⟨S, D, ?_, ⟨zFr_refl, rfl⟩, hJ, hW, fun _ _ => rfl, hD⟩
    simp only [F_X1_uniteAlleles_L2, l_0, l_1, l_2, l_3, l_4, l_5, l_6, l_7, l_8, l_9, l_10, l_11, l_12, l_13, l_14, l_15, l_16, l_17, l_18, l_19, l_20, l_21, l_24, l_25, l_26, l_27, l_31, l_33, l_41, l_65, l_67, l_71, l_84, l_120, l_127, l_128, l_130, l_160, l_162, l_200, l_255, l_256, l_999, l_1000, l_8000, l_9999, l_10000, l_8001, l_m1, t_k0, t_g0, t_p0, t_z0, t_k1, t_g1, t_p1, t_z1, t_k3, t_g3, t_p3, t_z3, t_k187, t_g187, t_p187, t_z187, t_k210, t_g210, t_p210, t_z210, t_k212, t_g212, t_p212, t_z212, t_k214, t_g214, t_p214, t_z214, t_r0_0, t_r0_1, t_r0_2, t_r0_4, t_r0_5, t_r0_6, t_r0_7, t_r1_0, t_r3_0, t_r187_0, t_r187_1, t_r187_2, t_r187_3, t_r210_0, t_r212_0, t_r214_1, t_r214_5, t_r214_6, t_r214_8, t_r214_10, t_a2, t_s2, t_a209, t_s209, t_a211, t_s211, t_a213, t_s213, t_a215, t_s215, t_a216, t_s216, t_a217, t_s217, t_a218, t_s218, t_a219, t_s219, t_a4, t_s4, zSt_sI, zSt_sF, zSt_zI, zSt_sJ, zSt_sD, zBo_0, zBo_1, hS, v_gI (v_j2 hS), hy.1.2.2, c1, bd2_some, bdx_inl, bdx_inr, bdc_inl, bdc_inr, obd_some, ↓reduceIte]
  | succ m ih =>
    intro fu a n L B w D S hS hy hJ hW hI hD ha hf
    obtain ⟨fu, rfl⟩ : ∃ f, fu = f + 1 := ⟨fu - 1, by omega⟩
    have c1 : ¬ nI (aN y) ≤ nI a := nI_ge (by omega) (by omega)
    have hv2 := v_j2 hS
    have hvj := v_jj hS
    have a4 : a < 4 := by omega
    obtain ⟨y1, y2, y3⟩ := hy.2.1 a (by omega)
    obtain ⟨yb, yl⟩ := hyB a (by omega)
    have e1 := v_a1 hv2 a4
    have e2 := v_a2 hv2 a4
    have hf' := c_find (S := S) (v := z + 202) (n := n) (L := L) (B := B) (b := aB y a) (l := aL y a) hvj hJ.1 hJ.2.1 (fun i hi => ⟨(hJ.2.2 i hi).1, (hJ.2.2 i hi).2.1, (hJ.2.2 i hi).2.2.2.1, (hJ.2.2 i hi).2.2.2.2⟩) yb yl
    cases hk : fnd n L B (aL y a) (aB y a) with
    | some k =>
      obtain ⟨k1, k2, k3⟩ := fnd_some hk
      rw [hk] at hf'
      have c2 : ¬ nI k = m1 := m1_ne (by have := hJ.2.1; omega)
      have f0 : zJf z S (sI S (z + 209) a (nI k)) := ⟨zFr_sI (by omega) (by omega), by rw [mI_sI, if_neg (by omega)]⟩
      have hS1 := zSt_Fr f0.1 hS
      have kn1 : ¬ n1 ≤ k := by
        intro q
        obtain ⟨b, b1, b2⟩ := hI.2.2.2.1 k q k1
        obtain ⟨-, b3, b4⟩ := hI.2.2.1 b b1
        rw [b2] at b3 b4
        have := hyd b a (by omega) (by omega) (b3.symm.trans k2) (b4.symm.trans k3)
        omega
      have IH := ih fu (a + 1) n L B (va_up w a k) D (sI S (z + 209) a (nI k)) hS1 (zCR_Fr f0.1 (by omega) hy) (by
        refine ⟨?_, hJ.2.1, fun i hi => ?_⟩
        · rw [mI_sI, if_neg (by omega)]; exact hJ.1
        · have := hJ.2.2 i hi
          rw [mI_sI, if_neg (by omega), mI_sI, if_neg (by omega), mI_sI, if_neg (by omega)]
          exact this) (by
        intro i hi
        rw [mI_sI, up_at]
        by_cases e : i = a
        · rw [if_pos ⟨rfl, e⟩, if_pos e]
        · rw [if_neg (by omega), if_neg e]; exact hW i (by omega)) (jInv_found hI hk) (by
        intro b hb hn
        rw [up_at] at hn ⊢
        by_cases e : b = a
        · rw [if_pos e] at hn; exact absurd hn kn1
        · rw [if_neg e] at hn ⊢; exact hD b (by omega) hn) (by omega) (by omega)
      have st : F_X1_uniteAlleles_L2 (fu + 1) (z + 187) (nI a) S = F_X1_uniteAlleles_L2 fu (z + 187) (nI (a + 1)) (sI S (z + 209) a (nI k)) := by
        simp only [F_X1_uniteAlleles_L2, F_X1_uniteAlleles_J77, l_0, l_1, l_2, l_3, l_4, l_5, l_6, l_7, l_8, l_9, l_10, l_11, l_12, l_13, l_14, l_15, l_16, l_17, l_18, l_19, l_20, l_21, l_24, l_25, l_26, l_27, l_31, l_33, l_41, l_65, l_67, l_71, l_84, l_120, l_127, l_128, l_130, l_160, l_162, l_200, l_255, l_256, l_999, l_1000, l_8000, l_9999, l_10000, l_8001, l_m1, t_k0, t_g0, t_p0, t_z0, t_k1, t_g1, t_p1, t_z1, t_k3, t_g3, t_p3, t_z3, t_k187, t_g187, t_p187, t_z187, t_k210, t_g210, t_p210, t_z210, t_k212, t_g212, t_p212, t_z212, t_k214, t_g214, t_p214, t_z214, t_r0_0, t_r0_1, t_r0_2, t_r0_4, t_r0_5, t_r0_6, t_r0_7, t_r1_0, t_r3_0, t_r187_0, t_r187_1, t_r187_2, t_r187_3, t_r210_0, t_r212_0, t_r214_1, t_r214_5, t_r214_6, t_r214_8, t_r214_10, t_a2, t_s2, t_a209, t_s209, t_a211, t_s211, t_a213, t_s213, t_a215, t_s215, t_a216, t_s216, t_a217, t_s217, t_a218, t_s218, t_a219, t_s219, t_a4, t_s4, zSt_sI, zSt_sF, zSt_zI, zSt_sJ, zSt_sD, zBo_0, zBo_1, hS, v_gI hv2, hy.1.2.2, c1, v_g3 hv2, v_g4 hv2, e1, e2, y1, y2, v_pk hvj, hf', fI, c2, a4, bd2_some, bdx_inl, bdx_inr, bdc_inl, bdc_inr, obd_some, ↓reduceIte, nI_add]
      rw [jAdd_f hk, st]
      refine ⟨fun e => ?_, fun t e => ?_⟩
      · obtain ⟨S', q1, q2⟩ := IH.1 e
        exact ⟨S', q1, zJf_trans f0 q2⟩
      · obtain ⟨S', D', q1, q2, q3⟩ := IH.2 t e
        exact ⟨S', D', q1, zJf_trans f0 q2, q3⟩
    | none =>
      rw [hk] at hf'
      by_cases c4 : n = 4
      · rw [jAdd_4 hk c4]
        refine ⟨fun _ => ⟨S, ?_, zFr_refl, rfl⟩, fun t e => by cases e⟩
        have hJ1 : mI S (z + 202) 2 = nI 4 := by rw [← c4]; exact hJ.1
        simp only [F_X1_uniteAlleles_L2, l_0, l_1, l_2, l_3, l_4, l_5, l_6, l_7, l_8, l_9, l_10, l_11, l_12, l_13, l_14, l_15, l_16, l_17, l_18, l_19, l_20, l_21, l_24, l_25, l_26, l_27, l_31, l_33, l_41, l_65, l_67, l_71, l_84, l_120, l_127, l_128, l_130, l_160, l_162, l_200, l_255, l_256, l_999, l_1000, l_8000, l_9999, l_10000, l_8001, l_m1, t_k0, t_g0, t_p0, t_z0, t_k1, t_g1, t_p1, t_z1, t_k3, t_g3, t_p3, t_z3, t_k187, t_g187, t_p187, t_z187, t_k210, t_g210, t_p210, t_z210, t_k212, t_g212, t_p212, t_z212, t_k214, t_g214, t_p214, t_z214, t_r0_0, t_r0_1, t_r0_2, t_r0_4, t_r0_5, t_r0_6, t_r0_7, t_r1_0, t_r3_0, t_r187_0, t_r187_1, t_r187_2, t_r187_3, t_r210_0, t_r212_0, t_r214_1, t_r214_5, t_r214_6, t_r214_8, t_r214_10, t_a2, t_s2, t_a209, t_s209, t_a211, t_s211, t_a213, t_s213, t_a215, t_s215, t_a216, t_s216, t_a217, t_s217, t_a218, t_s218, t_a219, t_s219, t_a4, t_s4, zSt_sI, zSt_sF, zSt_zI, zSt_sJ, zSt_sD, zBo_0, zBo_1, hS, v_gI hv2, v_gI hvj, hy.1.2.2, c1, v_g3 hv2, v_g4 hv2, e1, e2, y1, y2, v_pk hvj, hf', fI, hJ1, bd2_some, bdx_inl, bdx_inr, bdc_inl, bdc_inr, obd_some, ↓reduceIte]
      · have c4' : ¬ nI n = nI 4 := fun q => c4 ((nI_eq (by have := hJ.2.1; omega) (by omega)).mp q)
        have n4 : n < 4 := by have := hJ.2.1; omega
        have hap := c_appOf (v := z + 202) (w := z + 195) (a := a) hvj hv2 (by omega) hJ.1 n4 a4
        rw [y1, y2, y3] at hap
        have fA : zFr (z + 202) (z + 202 + 7) S (apoV S (z + 202) n (nI (aB y a)) (nI (aL y a)) (nI (aD y a))) := apo_Fr
        have f0 : zJf z S (sI (apoV S (z + 202) n (nI (aB y a)) (nI (aL y a)) (nI (aD y a))) (z + 209) a (nI n)) := by
          refine ⟨zFr_trans (zFr_mono fA (by omega) (by omega)) (zFr_sI (by omega) (by omega)), ?_⟩
          rw [mI_sI, if_neg (by omega)]
          simp [apoV, appV, mI_sI]
        have hSa := zSt_Fr fA hS
        have hS1 := zSt_Fr f0.1 hS
        have IH := ih fu (a + 1) (n + 1) (va_up L n (aL y a)) (va_up B n (aB y a)) (va_up w a n) (va_up D n (aD y a)) (sI (apoV S (z + 202) n (nI (aB y a)) (nI (aL y a)) (nI (aD y a))) (z + 209) a (nI n)) hS1 (zCR_Fr f0.1 (by omega) hy) (by
          refine ⟨?_, by omega, fun i hi => ?_⟩
          · rw [mI_sI, if_neg (by omega)]; simp [apoV, appV, mI_sI]
          · rw [mI_sI, if_neg (by omega), mI_sI, if_neg (by omega), mI_sI, if_neg (by omega), up_at, up_at, up_at]
            by_cases e : i = n
            · subst e
              simp [apoV, appV, mI_sI, yb, yl]
            · obtain ⟨g1, g2, g3, g4, g5⟩ := hJ.2.2 i (by omega)
              simp [apoV, appV, mI_sI, e, g1, g2, g3, g4, g5]) (by
          intro i hi
          rw [mI_sI, up_at]
          by_cases e : i = a
          · rw [if_pos ⟨rfl, e⟩, if_pos e]
          · rw [if_neg (by omega), if_neg e, fA.2 _ (by omega)]; exact hW i (by omega)) (jInv_new hI hk c4) (by
          intro b hb hn
          by_cases e : b = a
          · have : va_up w a n b = n := by rw [up_at, if_pos e]
            rw [this, up_at, if_pos rfl, e]
          · have : va_up w a n b = w b := by rw [up_at, if_neg e]
            rw [this] at hn ⊢
            have wb := (hI.2.2.1 b (by omega)).1
            rw [up_at, if_neg (by omega)]
            exact hD b (by omega) hn) (by omega) (by omega)
        have st : F_X1_uniteAlleles_L2 (fu + 1) (z + 187) (nI a) S = F_X1_uniteAlleles_L2 fu (z + 187) (nI (a + 1)) (sI (apoV S (z + 202) n (nI (aB y a)) (nI (aL y a)) (nI (aD y a))) (z + 209) a (nI n)) := by
          simp only [F_X1_uniteAlleles_L2, F_X1_uniteAlleles_J77, l_0, l_1, l_2, l_3, l_4, l_5, l_6, l_7, l_8, l_9, l_10, l_11, l_12, l_13, l_14, l_15, l_16, l_17, l_18, l_19, l_20, l_21, l_24, l_25, l_26, l_27, l_31, l_33, l_41, l_65, l_67, l_71, l_84, l_120, l_127, l_128, l_130, l_160, l_162, l_200, l_255, l_256, l_999, l_1000, l_8000, l_9999, l_10000, l_8001, l_m1, t_k0, t_g0, t_p0, t_z0, t_k1, t_g1, t_p1, t_z1, t_k3, t_g3, t_p3, t_z3, t_k187, t_g187, t_p187, t_z187, t_k210, t_g210, t_p210, t_z210, t_k212, t_g212, t_p212, t_z212, t_k214, t_g214, t_p214, t_z214, t_r0_0, t_r0_1, t_r0_2, t_r0_4, t_r0_5, t_r0_6, t_r0_7, t_r1_0, t_r3_0, t_r187_0, t_r187_1, t_r187_2, t_r187_3, t_r210_0, t_r212_0, t_r214_1, t_r214_5, t_r214_6, t_r214_8, t_r214_10, t_a2, t_s2, t_a209, t_s209, t_a211, t_s211, t_a213, t_s213, t_a215, t_s215, t_a216, t_s216, t_a217, t_s217, t_a218, t_s218, t_a219, t_s219, t_a4, t_s4, zSt_sI, zSt_sF, zSt_zI, zSt_sJ, zSt_sD, zBo_0, zBo_1, hS, hSa, v_gI hv2, v_gI hvj, hy.1.2.2, c1, v_g3 hv2, v_g4 hv2, e1, e2, y1, y2, v_pk hvj, hf', fI, hJ.1, c4', hap, a4, bd2_some, bdx_inl, bdx_inr, bdc_inl, bdc_inr, obd_some, ↓reduceIte, nI_add]
        have dn : n1 ≤ n := hI.1.1
        rw [jAdd_n hk c4, st]
        refine ⟨fun e => ?_, fun t e => ?_⟩
        · obtain ⟨S', q1, q2⟩ := IH.1 e
          exact ⟨S', q1, zJf_trans f0 q2⟩
        · obtain ⟨S', D', q1, q2, q3, q4, q5, q6⟩ := IH.2 t e
          refine ⟨S', D', q1, zJf_trans f0 q2, q3, q4, fun i hi => ?_, q6⟩
          rw [q5 i hi, up_at, if_neg (by omega)]
end C9
