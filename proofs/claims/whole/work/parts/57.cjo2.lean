set_option maxRecDepth 20000
section C10
variable {S S' S1 S2 : Mem} {z v n a lo hi o k : Nat} {x y : Rc} {s : As} {L B w D : Nat → Nat}
theorem c_uD_L (hx4 : aN x ≤ 4) (hy4 : aN y ≤ 4) (hdx : ∀ i, i < aN x → aD x i ≤ 9999) (hdy : ∀ i, i < aN y → aD y i ≤ 9999) (hw : ∀ b, b < aN y → w b < n) (hn : n ≤ 4) (w0 : w 0 = 0) (winj : ∀ b c, b < aN y → c < aN y → w b = w c → b = c) (hy1 : 1 ≤ aN y) :
    ∀ (m fu a : Nat) (E : Nat → Nat) (S : Mem), zSt z S → zCR S (z + 188) x → zCR S (z + 195) y → (∀ i, i < aN y → mI S (z + 209) i = nI (w i)) → (∀ i, i < n → mI S (z + 202 + 3) i = nI (E i)) → 1 ≤ a →
      (∀ b, 1 ≤ b → b < a → w b < aN x → E (w b) = min 9999 (aD x (w b) + aD y b)) → (∀ k, 1 ≤ k → k < n → (aN x ≤ k ∨ ∀ b, 1 ≤ b → b < a → w b ≠ k) → E k = D k) → a + m = aN y → m < fu →
    ∃ (S' : Mem) (E' : Nat → Nat), F_X1_uniteDepths_L32 fu (z + 187) (nI a) S = some S' ∧ zFr (z + 202 + 3) (z + 202 + 4) S S' ∧ (∀ i, i < n → mI S' (z + 202 + 3) i = nI (E' i)) ∧ E' 0 = E 0 ∧
      (∀ b, 1 ≤ b → b < aN y → w b < aN x → E' (w b) = min 9999 (aD x (w b) + aD y b)) ∧ (∀ k, 1 ≤ k → k < n → (aN x ≤ k ∨ ∀ b, 1 ≤ b → b < aN y → w b ≠ k) → E' k = D k) := by
  intro m
  induction m with
  | zero =>
    intro fu a E S hS hx hy hW hE ha1 h1 h2 ha hf
    obtain ⟨fu, rfl⟩ : ∃ f, fu = f + 1 := ⟨fu - 1, by omega⟩
    have c1 : nI (aN y) ≤ nI a := nI_le (by omega) (by omega)
    have ea : a = aN y := by omega
    subst ea
    refine ⟨S, E, ?_, zFr_refl, hE, rfl, h1, h2⟩
    simp only [F_X1_uniteDepths_L32, l_0, l_1, l_2, l_3, l_4, l_5, l_6, l_7, l_8, l_9, l_10, l_11, l_12, l_13, l_14, l_15, l_16, l_17, l_18, l_19, l_20, l_21, l_24, l_25, l_26, l_27, l_31, l_33, l_41, l_65, l_67, l_71, l_84, l_120, l_127, l_128, l_130, l_160, l_162, l_200, l_255, l_256, l_999, l_1000, l_8000, l_9999, l_10000, l_8001, l_m1, t_k0, t_g0, t_p0, t_z0, t_k1, t_g1, t_p1, t_z1, t_k3, t_g3, t_p3, t_z3, t_k187, t_g187, t_p187, t_z187, t_k210, t_g210, t_p210, t_z210, t_k212, t_g212, t_p212, t_z212, t_k214, t_g214, t_p214, t_z214, t_r0_0, t_r0_1, t_r0_2, t_r0_4, t_r0_5, t_r0_6, t_r0_7, t_r1_0, t_r3_0, t_r187_0, t_r187_1, t_r187_2, t_r187_3, t_r210_0, t_r212_0, t_r214_1, t_r214_5, t_r214_6, t_r214_8, t_r214_10, t_a2, t_s2, t_a209, t_s209, t_a211, t_s211, t_a213, t_s213, t_a215, t_s215, t_a216, t_s216, t_a217, t_s217, t_a218, t_s218, t_a219, t_s219, t_a4, t_s4, zSt_sI, zSt_sF, zSt_zI, zSt_sJ, zSt_sD, zBo_0, zBo_1, hS, v_gI (v_j2 hS), hy.1.2.2, c1, bd2_some, bdx_inl, bdx_inr, bdc_inl, bdc_inr, obd_some, ↓reduceIte]
  | succ m ih =>
    intro fu a E S hS hx hy hW hE ha1 h1 h2 ha hf
    obtain ⟨fu, rfl⟩ : ∃ f, fu = f + 1 := ⟨fu - 1, by omega⟩
    have c1 : ¬ nI (aN y) ≤ nI a := nI_ge (by omega) (by omega)
    have hv1 := v_j1 hS
    have hv2 := v_j2 hS
    have hvj := v_jj hS
    have a4 : a < 4 := by omega
    have wa := hw a (by omega)
    have eW := hW a (by omega)
    by_cases c2 : aN x ≤ w a
    · have c2' : nI (aN x) ≤ nI (w a) := nI_le c2 (by omega)
      obtain ⟨S', E', q1, q2, q3⟩ := ih fu (a + 1) E S hS hx hy hW hE (by omega) (by
        intro b b1 b2 b3
        by_cases e : b = a
        · subst e; omega
        · exact h1 b b1 (by omega) b3) (by
        intro k k1 k2 k3
        refine h2 k k1 k2 ?_
        rcases k3 with k3 | k3
        · exact Or.inl k3
        · exact Or.inr (fun b b1 b2 => k3 b b1 (by omega))) (by omega) (by omega)
      refine ⟨S', E', ?_, q2, q3⟩
      simp only [F_X1_uniteDepths_L32, F_X1_uniteDepths_J97, l_0, l_1, l_2, l_3, l_4, l_5, l_6, l_7, l_8, l_9, l_10, l_11, l_12, l_13, l_14, l_15, l_16, l_17, l_18, l_19, l_20, l_21, l_24, l_25, l_26, l_27, l_31, l_33, l_41, l_65, l_67, l_71, l_84, l_120, l_127, l_128, l_130, l_160, l_162, l_200, l_255, l_256, l_999, l_1000, l_8000, l_9999, l_10000, l_8001, l_m1, t_k0, t_g0, t_p0, t_z0, t_k1, t_g1, t_p1, t_z1, t_k3, t_g3, t_p3, t_z3, t_k187, t_g187, t_p187, t_z187, t_k210, t_g210, t_p210, t_z210, t_k212, t_g212, t_p212, t_z212, t_k214, t_g214, t_p214, t_z214, t_r0_0, t_r0_1, t_r0_2, t_r0_4, t_r0_5, t_r0_6, t_r0_7, t_r1_0, t_r3_0, t_r187_0, t_r187_1, t_r187_2, t_r187_3, t_r210_0, t_r212_0, t_r214_1, t_r214_5, t_r214_6, t_r214_8, t_r214_10, t_a2, t_s2, t_a209, t_s209, t_a211, t_s211, t_a213, t_s213, t_a215, t_s215, t_a216, t_s216, t_a217, t_s217, t_a218, t_s218, t_a219, t_s219, t_a4, t_s4, zSt_sI, zSt_sF, zSt_zI, zSt_sJ, zSt_sD, zBo_0, zBo_1, hS, v_gI hv1, v_gI hv2, hy.1.2.2, hx.1.2.2, c1, a4, eW, c2', bd2_some, bdx_inl, bdx_inr, bdc_inl, bdc_inr, obd_some, ↓reduceIte, nI_add]
      exact q1
    · have c2' : ¬ nI (aN x) ≤ nI (w a) := nI_ge (by omega) (by omega)
      have w4 : w a < 4 := by omega
      have e1 := v_a3 hv1 w4
      have e2 := v_a3 hv2 a4
      have e3 := (hx.2.1 (w a) (by omega)).2.2
      have e4 := (hy.2.1 a (by omega)).2.2
      have d1 := hdx (w a) (by omega)
      have d2 := hdy a (by omega)
      have e5 : (if nI 9999 < nI (aD x (w a) + aD y a) then nI 9999 else nI (aD x (w a) + aD y a)) = nI (min 9999 (aD x (w a) + aD y a)) := by
        have q0 := i_lt (a := 9999) (b := aD x (w a) + aD y a) (by omega) (by omega)
        by_cases c : 9999 < aD x (w a) + aD y a
        · rw [if_pos (by rw [q0]; exact c)]; congr 1; omega
        · rw [if_neg (by rw [q0]; exact c)]; congr 1; omega
      have f0 : zFr (z + 202 + 3) (z + 202 + 4) S (sI S (z + 202 + 3) (w a) (nI (min 9999 (aD x (w a) + aD y a)))) := zFr_sI (by omega) (by omega)
      have e6 := v_s3 (x := nI (min 9999 (aD x (w a) + aD y a))) hvj w4
      obtain ⟨S', E', q1, q2, q3, q4, q5, q6⟩ := ih fu (a + 1) (va_up E (w a) (min 9999 (aD x (w a) + aD y a))) _ (zSt_Fr f0 hS) (zCR_Fr f0 (by omega) hx) (zCR_Fr f0 (by omega) hy) (fun i hi => by rw [f0.2 _ (by omega)]; exact hW i hi) (by
        intro i hi
        rw [mI_sI, up_at]
        by_cases e : i = w a
        · rw [if_pos ⟨rfl, e⟩, if_pos e]
        · rw [if_neg (by omega), if_neg e]; exact hE i hi) (by omega) (by
        intro b b1 b2 b3
        rw [up_at]
        by_cases e : b = a
        · subst e; rw [if_pos rfl]
        · rw [if_neg (fun q => e (winj b a (by omega) (by omega) q))]
          exact h1 b b1 (by omega) b3) (by
        intro k k1 k2 k3
        have ne : k ≠ w a := by
          rcases k3 with k3 | k3
          · omega
          · exact fun q => k3 a ha1 (by omega) q.symm
        rw [up_at, if_neg ne]
        refine h2 k k1 k2 ?_
        rcases k3 with k3 | k3
        · exact Or.inl k3
        · exact Or.inr (fun b b1 b2 => k3 b b1 (by omega))) (by omega) (by omega)
      have wa0 : ¬ 0 = w a := fun q => by
        have := winj 0 a (by omega) (by omega) (by rw [w0]; exact q)
        omega
      refine ⟨S', E', ?_, zFr_trans f0 q2, q3, ?_, q5, q6⟩
      · simp only [F_X1_uniteDepths_L32, F_X1_uniteDepths_J97, l_0, l_1, l_2, l_3, l_4, l_5, l_6, l_7, l_8, l_9, l_10, l_11, l_12, l_13, l_14, l_15, l_16, l_17, l_18, l_19, l_20, l_21, l_24, l_25, l_26, l_27, l_31, l_33, l_41, l_65, l_67, l_71, l_84, l_120, l_127, l_128, l_130, l_160, l_162, l_200, l_255, l_256, l_999, l_1000, l_8000, l_9999, l_10000, l_8001, l_m1, t_k0, t_g0, t_p0, t_z0, t_k1, t_g1, t_p1, t_z1, t_k3, t_g3, t_p3, t_z3, t_k187, t_g187, t_p187, t_z187, t_k210, t_g210, t_p210, t_z210, t_k212, t_g212, t_p212, t_z212, t_k214, t_g214, t_p214, t_z214, t_r0_0, t_r0_1, t_r0_2, t_r0_4, t_r0_5, t_r0_6, t_r0_7, t_r1_0, t_r3_0, t_r187_0, t_r187_1, t_r187_2, t_r187_3, t_r210_0, t_r212_0, t_r214_1, t_r214_5, t_r214_6, t_r214_8, t_r214_10, t_a2, t_s2, t_a209, t_s209, t_a211, t_s211, t_a213, t_s213, t_a215, t_s215, t_a216, t_s216, t_a217, t_s217, t_a218, t_s218, t_a219, t_s219, t_a4, t_s4, zSt_sI, zSt_sF, zSt_zI, zSt_sJ, zSt_sD, zBo_0, zBo_1, hS, v_gI hv1, v_gI hv2, v_g5 hv1, v_g5 hv2, v_g5 hvj, hy.1.2.2, hx.1.2.2, c1, a4, eW, c2', e1, e2, e3, e4, nI_add, e5, e6, bd2_some, bdx_inl, bdx_inr, bdc_inl, bdc_inr, obd_some, ↓reduceIte]
        exact q1
      · rw [q4, up_at, if_neg wa0]
theorem c_uD (hx4 : aN x ≤ 4) (hy4 : aN y ≤ 4) (hdx : ∀ i, i < aN x → aD x i ≤ 9999) (hdy : ∀ i, i < aN y → aD y i ≤ 9999) (hw : ∀ b, b < aN y → w b < n) (hxn : aN x ≤ n) (hn : n ≤ 4) (w0 : w 0 = 0) (winj : ∀ b c, b < aN y → c < aN y → w b = w c → b = c) (hx1 : 1 ≤ aN x) (hy1 : 1 ≤ aN y) (hcov : ∀ k, aN x ≤ k → k < n → ∃ b, b < aN y ∧ w b = k)
    (hS : zSt z S) (hx : zCR S (z + 188) x) (hy : zCR S (z + 195) y) (hW : ∀ i, i < aN y → mI S (z + 209) i = nI (w i)) (hE : ∀ i, i < n → mI S (z + 202 + 3) i = nI (D i)) (hD1 : ∀ i, i < aN x → D i = aD x i) (hD2 : ∀ b, b < aN y → aN x ≤ w b → D (w b) = aD y b) :
    ∃ S', F_X1_uniteDepths (z + 187) S = some S' ∧ zFr (z + 202 + 3) (z + 202 + 4) S S' ∧ ∀ i, i < n → mI S' (z + 202 + 3) i = nI (aD (jRec x y n L B w) i) := by
  have hv1 := v_j1 hS
  have hv2 := v_j2 hS
  have hvj := v_jj hS
  have e1 := v_a3 hv1 (show 0 < 4 by omega)
  have e2 := v_a3 hv2 (show 0 < 4 by omega)
  have e3 := (hx.2.1 0 (by omega)).2.2
  have e4 := (hy.2.1 0 (by omega)).2.2
  have d1 := hdx 0 (by omega)
  have d2 := hdy 0 (by omega)
  have e5 : (if nI (aD x 0) < nI (aD y 0) then nI (aD y 0) else nI (aD x 0)) = nI (max (aD x 0) (aD y 0)) := by
    have q0 := i_lt (a := aD x 0) (b := aD y 0) (by omega) (by omega)
    by_cases c : aD x 0 < aD y 0
    · rw [if_pos (by rw [q0]; exact c)]; congr 1; omega
    · rw [if_neg (by rw [q0]; exact c)]; congr 1; omega
  have e6 := v_s3 (x := nI (max (aD x 0) (aD y 0))) hvj (show 0 < 4 by omega)
  have f0 : zFr (z + 202 + 3) (z + 202 + 4) S (sI S (z + 202 + 3) 0 (nI (max (aD x 0) (aD y 0)))) := zFr_sI (by omega) (by omega)
  obtain ⟨S', E', q1, q2, q3, q4, q5, q6⟩ := c_uD_L (D := D) (x := x) (y := y) (w := w) (n := n) hx4 hy4 hdx hdy hw hn w0 winj hy1 (aN y - 1) FU 1 (va_up D 0 (max (aD x 0) (aD y 0))) _ (zSt_Fr f0 hS) (zCR_Fr f0 (by omega) hx) (zCR_Fr f0 (by omega) hy) (fun i hi => by rw [f0.2 _ (by omega)]; exact hW i hi) (by
    intro i hi
    rw [mI_sI, up_at]
    by_cases e : i = 0
    · rw [if_pos ⟨rfl, e⟩, if_pos e]
    · rw [if_neg (by omega), if_neg e]; exact hE i hi) (Nat.le_refl _) (fun b b1 b2 => by omega) (fun k k1 k2 _ => by rw [up_at, if_neg (by omega)]) (by omega) (by show aN y - 1 < 4000; omega)
  refine ⟨S', ?_, zFr_trans f0 q2, fun i hi => ?_⟩
  · simp only [F_X1_uniteDepths, l_0, l_1, l_2, l_3, l_4, l_5, l_6, l_7, l_8, l_9, l_10, l_11, l_12, l_13, l_14, l_15, l_16, l_17, l_18, l_19, l_20, l_21, l_24, l_25, l_26, l_27, l_31, l_33, l_41, l_65, l_67, l_71, l_84, l_120, l_127, l_128, l_130, l_160, l_162, l_200, l_255, l_256, l_999, l_1000, l_8000, l_9999, l_10000, l_8001, l_m1, t_k0, t_g0, t_p0, t_z0, t_k1, t_g1, t_p1, t_z1, t_k3, t_g3, t_p3, t_z3, t_k187, t_g187, t_p187, t_z187, t_k210, t_g210, t_p210, t_z210, t_k212, t_g212, t_p212, t_z212, t_k214, t_g214, t_p214, t_z214, t_r0_0, t_r0_1, t_r0_2, t_r0_4, t_r0_5, t_r0_6, t_r0_7, t_r1_0, t_r3_0, t_r187_0, t_r187_1, t_r187_2, t_r187_3, t_r210_0, t_r212_0, t_r214_1, t_r214_5, t_r214_6, t_r214_8, t_r214_10, t_a2, t_s2, t_a209, t_s209, t_a211, t_s211, t_a213, t_s213, t_a215, t_s215, t_a216, t_s216, t_a217, t_s217, t_a218, t_s218, t_a219, t_s219, t_a4, t_s4, zSt_sI, zSt_sF, zSt_zI, zSt_sJ, zSt_sD, zBo_0, zBo_1, hS, v_g5 hv1, v_g5 hv2, v_g5 hvj, e1, e2, e3, e4, e5, e6, bd2_some, bdx_inl, bdx_inr, bdc_inl, bdc_inr, obd_some]
    exact q1
  · rw [q3 i hi]
    congr 1
    show E' i = if i = 0 then max (aD x 0) (aD y 0) else min 9999 ((if i < aN x then aD x i else 0) + bkD y w i)
    by_cases c0 : i = 0
    · subst c0
      rw [q4, up_at, if_pos rfl, if_pos rfl]
    · rw [if_neg c0]
      unfold bkD
      cases e : bk w (aN y) i with
      | some b =>
        obtain ⟨b1, b2⟩ := bk_some e
        have b0 : 1 ≤ b := Nat.one_le_iff_ne_zero.mpr (fun q => by rw [q, w0] at b2; omega)
        show E' i = min 9999 ((if i < aN x then aD x i else 0) + aD y b)
        have dy := hdy b b1
        by_cases c1 : i < aN x
        · rw [if_pos c1]
          have := q5 b b0 b1 (by rw [b2]; exact c1)
          rw [b2] at this
          exact this
        · rw [if_neg c1, q6 i (by omega) hi (Or.inl (by omega))]
          have := hD2 b b1 (by rw [b2]; omega)
          rw [b2] at this
          omega
      | none =>
        have nb := bk_none e
        show E' i = min 9999 ((if i < aN x then aD x i else 0) + 0)
        by_cases c1 : i < aN x
        · rw [if_pos c1, q6 i (by omega) hi (Or.inr (fun b _ b2 => nb b b2)), hD1 i c1]
          have := hdx i c1
          omega
        · obtain ⟨b, b1, b2⟩ := hcov i (by omega) hi
          exact absurd b2 (nb b b1)
theorem c_uAl {g1 g2 : Nat} (hS : zSt z S) (h1 : g1 ≤ 4) (h2 : g2 ≤ aN y) (hy4 : aN y ≤ 4) (hW : ∀ i, i < aN y → mI S (z + 209) i = nI (w i)) : F_X1_unitedAllele (z + 187) (gI g1) (gI g2) S = some (gI (if 1 < g1 then g1 else if g2 = 0 then g1 else w (g2 - 1) + 1), S) := by
  by_cases c1 : 1 < g1
  · obtain ⟨g, rfl⟩ : ∃ g, g1 = g + 1 := ⟨g1 - 1, by omega⟩
    have e1 : gI (g + 1) = nI g := rfl
    have c1' : nI 0 < nI g := nI_lt (by omega) (by omega)
    rw [if_pos c1]
    simp only [F_X1_unitedAllele, l_0, l_1, l_2, l_3, l_4, l_5, l_6, l_7, l_8, l_9, l_10, l_11, l_12, l_13, l_14, l_15, l_16, l_17, l_18, l_19, l_20, l_21, l_24, l_25, l_26, l_27, l_31, l_33, l_41, l_65, l_67, l_71, l_84, l_120, l_127, l_128, l_130, l_160, l_162, l_200, l_255, l_256, l_999, l_1000, l_8000, l_9999, l_10000, l_8001, l_m1, e1, c1', ↓reduceIte]
  · have c1' : ¬ nI 0 < gI g1 := by
      rcases (show g1 = 0 ∨ g1 = 1 by omega) with e | e <;> subst e <;> decide
    rw [if_neg c1]
    by_cases c2 : g2 = 0
    · subst c2
      have e2 : gI 0 = m1 := rfl
      rw [if_pos rfl]
      simp only [F_X1_unitedAllele, l_0, l_1, l_2, l_3, l_4, l_5, l_6, l_7, l_8, l_9, l_10, l_11, l_12, l_13, l_14, l_15, l_16, l_17, l_18, l_19, l_20, l_21, l_24, l_25, l_26, l_27, l_31, l_33, l_41, l_65, l_67, l_71, l_84, l_120, l_127, l_128, l_130, l_160, l_162, l_200, l_255, l_256, l_999, l_1000, l_8000, l_9999, l_10000, l_8001, l_m1, e2, c1', ↓reduceIte]
    · obtain ⟨g, rfl⟩ : ∃ g, g2 = g + 1 := ⟨g2 - 1, by omega⟩
      have e2 : gI (g + 1) = nI g := rfl
      have c2' : ¬ nI g = m1 := m1_ne (by omega)
      have g4 : g < 4 := by omega
      have e3 := hW g (by omega)
      have e4 : gI (w (g + 1 - 1) + 1) = nI (w g) := rfl
      rw [if_neg c2]
      simp only [F_X1_unitedAllele, l_0, l_1, l_2, l_3, l_4, l_5, l_6, l_7, l_8, l_9, l_10, l_11, l_12, l_13, l_14, l_15, l_16, l_17, l_18, l_19, l_20, l_21, l_24, l_25, l_26, l_27, l_31, l_33, l_41, l_65, l_67, l_71, l_84, l_120, l_127, l_128, l_130, l_160, l_162, l_200, l_255, l_256, l_999, l_1000, l_8000, l_9999, l_10000, l_8001, l_m1, t_k0, t_g0, t_p0, t_z0, t_k1, t_g1, t_p1, t_z1, t_k3, t_g3, t_p3, t_z3, t_k187, t_g187, t_p187, t_z187, t_k210, t_g210, t_p210, t_z210, t_k212, t_g212, t_p212, t_z212, t_k214, t_g214, t_p214, t_z214, t_r0_0, t_r0_1, t_r0_2, t_r0_4, t_r0_5, t_r0_6, t_r0_7, t_r1_0, t_r3_0, t_r187_0, t_r187_1, t_r187_2, t_r187_3, t_r210_0, t_r212_0, t_r214_1, t_r214_5, t_r214_6, t_r214_8, t_r214_10, t_a2, t_s2, t_a209, t_s209, t_a211, t_s211, t_a213, t_s213, t_a215, t_s215, t_a216, t_s216, t_a217, t_s217, t_a218, t_s218, t_a219, t_s219, t_a4, t_s4, zSt_sI, zSt_sF, zSt_zI, zSt_sJ, zSt_sD, zBo_0, zBo_1, hS, e2, e3, e4, c1', c2', g4, bd2_some, bdx_inl, bdx_inr, bdc_inl, bdc_inr, obd_some, ↓reduceIte]
theorem c_uG1 {i fu : Nat} (hi : i < 4) (hS : zSt z S) (hx : zCR S (z + 188) x) (hy : zCR S (z + 195) y) (hgx : aG x i ≤ 4) (hgy : aG y i ≤ aN y) (hy4 : aN y ≤ 4) (hW : ∀ i, i < aN y → mI S (z + 209) i = nI (w i)) :
    F_X1_uniteGenotypes_L2 (fu + 1) (z + 187) (nI i) S = F_X1_uniteGenotypes_L2 fu (z + 187) (nI (i + 1)) (sI S (z + 202 + 4) i (gI (aG (jRec x y n L B w) i))) := by
  have hv1 := v_j1 hS
  have hv2 := v_j2 hS
  have hvj := v_jj hS
  have c1 : ¬ nI 4 ≤ nI i := nI_ge (by omega) (by omega)
  have e1 := v_a4 hv1 hi
  have e2 := v_a4 hv2 hi
  have e3 := hx.2.2.1 i hi
  have e4 := hy.2.2.1 i hi
  have e5 := c_uAl (y := y) (w := w) (g1 := aG x i) (g2 := aG y i) hS hgx hgy hy4 hW
  have e6 := v_s4 (x := gI (aG (jRec x y n L B w) i)) hvj hi
  have e7 : aG (jRec x y n L B w) i = if 1 < aG x i then aG x i else if aG y i = 0 then aG x i else w (aG y i - 1) + 1 := rfl
  rw [← e7] at e5
  simp only [F_X1_uniteGenotypes_L2, l_0, l_1, l_2, l_3, l_4, l_5, l_6, l_7, l_8, l_9, l_10, l_11, l_12, l_13, l_14, l_15, l_16, l_17, l_18, l_19, l_20, l_21, l_24, l_25, l_26, l_27, l_31, l_33, l_41, l_65, l_67, l_71, l_84, l_120, l_127, l_128, l_130, l_160, l_162, l_200, l_255, l_256, l_999, l_1000, l_8000, l_9999, l_10000, l_8001, l_m1, t_k0, t_g0, t_p0, t_z0, t_k1, t_g1, t_p1, t_z1, t_k3, t_g3, t_p3, t_z3, t_k187, t_g187, t_p187, t_z187, t_k210, t_g210, t_p210, t_z210, t_k212, t_g212, t_p212, t_z212, t_k214, t_g214, t_p214, t_z214, t_r0_0, t_r0_1, t_r0_2, t_r0_4, t_r0_5, t_r0_6, t_r0_7, t_r1_0, t_r3_0, t_r187_0, t_r187_1, t_r187_2, t_r187_3, t_r210_0, t_r212_0, t_r214_1, t_r214_5, t_r214_6, t_r214_8, t_r214_10, t_a2, t_s2, t_a209, t_s209, t_a211, t_s211, t_a213, t_s213, t_a215, t_s215, t_a216, t_s216, t_a217, t_s217, t_a218, t_s218, t_a219, t_s219, t_a4, t_s4, zSt_sI, zSt_sF, zSt_zI, zSt_sJ, zSt_sD, zBo_0, zBo_1, hS, c1, v_g6 hv1, v_g6 hv2, v_g6 hvj, e1, e2, e3, e4, e5, e6, bd2_some, bdx_inl, bdx_inr, bdc_inl, bdc_inr, obd_some, ↓reduceIte, nI_add]
theorem c_uH1 {m fu : Nat} (hm : m < 2) (hS : zSt z S) (hx : zCR S (z + 188) x) (hy : zCR S (z + 195) y) (hhx : aH x m ≤ 1) (hhy : aH y m ≤ 1) :
    F_X1_uniteGenotypes_L46 (fu + 1) (z + 187) (nI m) S = F_X1_uniteGenotypes_L46 fu (z + 187) (nI (m + 1)) (sI S (z + 202 + 5) m (nI (aH x m * aH y m))) := by
  have hv1 := v_j1 hS
  have hv2 := v_j2 hS
  have hvj := v_jj hS
  have c1 : ¬ nI 2 ≤ nI m := nI_ge (by omega) (by omega)
  have e1 := v_a5 hv1 hm
  have e2 := v_a5 hv2 hm
  have e3 := hx.2.2.2.1 m hm
  have e4 := hy.2.2.2.1 m hm
  have e6 := v_s5 (x := nI 0) hvj hm zBo_0
  have e7 := v_s5 (x := nI 1) hvj hm zBo_1
  rcases (show aH x m = 0 ∨ aH x m = 1 by omega) with ex | ex <;> rcases (show aH y m = 0 ∨ aH y m = 1 by omega) with ey | ey <;> rw [ex] at e3 <;> rw [ey] at e4 <;> rw [ex, ey] <;>
    simp only [F_X1_uniteGenotypes_L46, F_X1_uniteGenotypes_J87, F_X1_uniteGenotypes_J88, l_0, l_1, l_2, l_3, l_4, l_5, l_6, l_7, l_8, l_9, l_10, l_11, l_12, l_13, l_14, l_15, l_16, l_17, l_18, l_19, l_20, l_21, l_24, l_25, l_26, l_27, l_31, l_33, l_41, l_65, l_67, l_71, l_84, l_120, l_127, l_128, l_130, l_160, l_162, l_200, l_255, l_256, l_999, l_1000, l_8000, l_9999, l_10000, l_8001, l_m1, t_k0, t_g0, t_p0, t_z0, t_k1, t_g1, t_p1, t_z1, t_k3, t_g3, t_p3, t_z3, t_k187, t_g187, t_p187, t_z187, t_k210, t_g210, t_p210, t_z210, t_k212, t_g212, t_p212, t_z212, t_k214, t_g214, t_p214, t_z214, t_r0_0, t_r0_1, t_r0_2, t_r0_4, t_r0_5, t_r0_6, t_r0_7, t_r1_0, t_r3_0, t_r187_0, t_r187_1, t_r187_2, t_r187_3, t_r210_0, t_r212_0, t_r214_1, t_r214_5, t_r214_6, t_r214_8, t_r214_10, t_a2, t_s2, t_a209, t_s209, t_a211, t_s211, t_a213, t_s213, t_a215, t_s215, t_a216, t_s216, t_a217, t_s217, t_a218, t_s218, t_a219, t_s219, t_a4, t_s4, zSt_sI, zSt_sF, zSt_zI, zSt_sJ, zSt_sD, zBo_0, zBo_1, hS, c1, v_g7 hv1, v_g7 hv2, v_g7 hvj, e1, e2, e3, e4, e6, e7, ne10, bd2_some, bdx_inl, bdx_inr, bdc_inl, bdc_inr, obd_some, ↓reduceIte, nI_add, Nat.mul_zero, Nat.zero_mul, Nat.mul_one]
theorem c_uG (hS : zSt z S) (hx : zCR S (z + 188) x) (hy : zCR S (z + 195) y) (hgx : ∀ i, i < 4 → aG x i ≤ 4) (hgy : ∀ i, i < 4 → aG y i ≤ aN y) (hhx : ∀ i, i < 2 → aH x i ≤ 1) (hhy : ∀ i, i < 2 → aH y i ≤ 1) (hy4 : aN y ≤ 4) (hW : ∀ i, i < aN y → mI S (z + 209) i = nI (w i)) :
    ∃ S', F_X1_uniteGenotypes (z + 187) S = some S' ∧ zFr (z + 202 + 4) (z + 202 + 6) S S' ∧ (∀ i, i < 4 → mI S' (z + 202 + 4) i = gI (aG (jRec x y n L B w) i)) ∧ ∀ i, i < 2 → mI S' (z + 202 + 5) i = nI (aH x i * aH y i) := by
  obtain ⟨T0, g0⟩ : ∃ T, T = S := ⟨_, rfl⟩
  have st : ∀ i (T : Mem), i < 4 → zFr (z + 202 + 4) (z + 202 + 6) S T → ∀ fu, F_X1_uniteGenotypes_L2 (fu + 1) (z + 187) (nI i) T = F_X1_uniteGenotypes_L2 fu (z + 187) (nI (i + 1)) (sI T (z + 202 + 4) i (gI (aG (jRec x y n L B w) i))) := by
    intro i T hi hT fu
    exact c_uG1 hi (zSt_Fr hT hS) (zCR_Fr hT (by omega) hx) (zCR_Fr hT (by omega) hy) (hgx i hi) (hgy i hi) hy4 (fun j hj => by rw [hT.2 _ (by omega)]; exact hW j hj)
  have st2 : ∀ m (T : Mem), m < 2 → zFr (z + 202 + 4) (z + 202 + 6) S T → ∀ fu, F_X1_uniteGenotypes_L46 (fu + 1) (z + 187) (nI m) T = F_X1_uniteGenotypes_L46 fu (z + 187) (nI (m + 1)) (sI T (z + 202 + 5) m (nI (aH x m * aH y m))) := by
    intro m T hm hT fu
    exact c_uH1 hm (zSt_Fr hT hS) (zCR_Fr hT (by omega) hx) (zCR_Fr hT (by omega) hy) (hhx m hm) (hhy m hm)
  have r1 : zFr (z + 202 + 4) (z + 202 + 6) S (sI S (z + 202 + 4) 0 (gI (aG (jRec x y n L B w) 0))) := zFr_sI (by omega) (by omega)
  have r2 := zFr_trans r1 (zFr_sI (a := z + 202 + 4) (k := 1) (x := gI (aG (jRec x y n L B w) 1)) (by omega) (by omega))
  have r3 := zFr_trans r2 (zFr_sI (a := z + 202 + 4) (k := 2) (x := gI (aG (jRec x y n L B w) 2)) (by omega) (by omega))
  have r4 := zFr_trans r3 (zFr_sI (a := z + 202 + 4) (k := 3) (x := gI (aG (jRec x y n L B w) 3)) (by omega) (by omega))
  have r5 := zFr_trans r4 (zFr_sI (a := z + 202 + 5) (k := 0) (x := nI (aH x 0 * aH y 0)) (by omega) (by omega))
  have r6 := zFr_trans r5 (zFr_sI (a := z + 202 + 5) (k := 1) (x := nI (aH x 1 * aH y 1)) (by omega) (by omega))
  refine ⟨_, ?_, r6, ?_, ?_⟩
  · show F_X1_uniteGenotypes_L2 (3995 + 1 + 1 + 1 + 1 + 1) (z + 187) (nI 0) S = _
    rw [st 0 S (by omega) zFr_refl, st 1 _ (by omega) r1, st 2 _ (by omega) r2, st 3 _ (by omega) r3]
    unfold F_X1_uniteGenotypes_L2
    rw [if_pos (show (4 : Int32) ≤ nI (3 + 1) by decide)]
    show F_X1_uniteGenotypes_L46 (3997 + 1 + 1 + 1) (z + 187) (nI 0) _ = _
    rw [st2 0 _ (by omega) r4, st2 1 _ (by omega) r5]
    unfold F_X1_uniteGenotypes_L46
    rw [if_pos (show (2 : Int32) ≤ nI (1 + 1) by decide)]
  · intro i hi
    rcases (show i = 0 ∨ i = 1 ∨ i = 2 ∨ i = 3 by omega) with e | e | e | e <;> subst e <;> simp [mI_sI]
  · intro i hi
    rcases (show i = 0 ∨ i = 1 by omega) with e | e <;> subst e <;> simp [mI_sI]
end C10
