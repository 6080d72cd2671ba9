set_option maxRecDepth 20000
/-! The class splits. -/
def apoV (S : Mem) (v n : Nat) (b l d : Int32) : Mem := sI (appV S v n b l) (v + 3) n d
section C8
variable {S S' S1 S2 : Mem} {z v w n a lo hi o k : Nat} {x l : Int32} {r : Rc} {s : As}
theorem c_appOf (h : zVar S v) (h' : zVar S w) (hd : v + 7 ≤ w ∨ w + 7 ≤ v) (hn : mI S v 2 = nI n) (h4 : n < 4) (ha : a < 4) : F_X4_appendAlleleOf v w (nI a) S = some (apoV S v n (mI S (w + 1) a) (mI S (w + 2) a) (mI S (w + 3) a)) := by
  have hA := c_append (b := mI S (w + 1) a) (l := mI S (w + 2) a) h hn h4
  have hF : zFr v (v + 7) S (appV S v n (mI S (w + 1) a) (mI S (w + 2) a)) := app_Fr
  have hv1 := zVar_Fr hF h
  have hw1 := zVar_Fr hF h'
  have e1 : mI (appV S v n (mI S (w + 1) a) (mI S (w + 2) a)) v 2 = nI (n + 1) := by simp [appV, mI_sI]
  have e2 : mI (appV S v n (mI S (w + 1) a) (mI S (w + 2) a)) (w + 3) = mI S (w + 3) := hF.2 _ (by omega)
  have e3 : nI (n + 1) - nI 1 = nI n := nI_sub1 (by omega)
  have f1 := v_a1 h' ha
  have f2 := v_a2 h' ha
  have f3 := v_a3 hw1 ha
  have f4 := v_s3 (x := mI S (w + 3) a) hv1 h4
  simp only [F_X4_appendAlleleOf, l_0, l_1, l_2, l_3, l_4, l_5, l_6, l_7, l_8, l_9, l_10, l_11, l_12, l_13, l_14, l_15, l_16, l_17, l_18, l_19, l_20, l_21, l_24, l_25, l_26, l_27, l_31, l_33, l_41, l_65, l_67, l_71, l_84, l_120, l_127, l_128, l_130, l_160, l_162, l_200, l_255, l_256, l_999, l_1000, l_8000, l_9999, l_10000, l_8001, l_m1, v_g3 h', v_g4 h', f1, f2, v_pk h, hA, v_g5 hv1, v_g5 hw1, v_gI hv1, e1, e2, e3, f3, f4, bd2_some, bdx_inl, bdx_inr, bdc_inl, bdc_inr, obd_some]
  rfl
theorem apo_Fr {b l d : Int32} : zFr v (v + 7) S (apoV S v n b l d) := zFr_trans app_Fr (zFr_sI (by omega) (by omega))
theorem c_pair {j k : Nat} (hj : j < 4) (hk : k < 4) : F_X5_pairNumber (nI j) (nI k) S = some (nI (prn j k), S) := by
  rcases (show j = 0 ∨ j = 1 ∨ j = 2 ∨ j = 3 by omega) with e | e | e | e <;> rcases (show k = 0 ∨ k = 1 ∨ k = 2 ∨ k = 3 by omega) with e' | e' | e' | e' <;> subst e <;> subst e' <;> rfl
theorem prn_lt {j k : Nat} (hj : j < 4) (hk : k < 4) : prn j k < 10 := by
  rcases (show j = 0 ∨ j = 1 ∨ j = 2 ∨ j = 3 by omega) with e | e | e | e <;> rcases (show k = 0 ∨ k = 1 ∨ k = 2 ∨ k = 3 by omega) with e' | e' | e' | e' <;> subst e <;> subst e' <;> decide
theorem c_prtG {i fu : Nat} (hi : i < 4) (h : zVar S v) (h' : zVar S w) (hg : mI S (w + 4) i = gI (aG r i)) (hG : aG r i ≤ 4) (ha : a < 4) : F_X4_becomePart_L34 (fu + 1) v w (nI a) (nI i) S = F_X4_becomePart_L34 fu v w (nI a) (nI (i + 1)) (sI S (v + 4) i (gI (aG (aPart r a) i))) := by
  have c1 : ¬ nI 4 ≤ nI i := nI_ge (by omega) (by omega)
  have f1 := v_a4 h' hi
  have dG : aG (aPart r a) i = if aG r i = 0 then 0 else if aG r i = a + 1 then 2 else 1 := rfl
  cases e : aG r i with
  | zero =>
    have e2 : mI S (w + 4) i = m1 := by rw [hg, e]; rfl
    have e3 : gI (aG (aPart r a) i) = m1 := by rw [dG, e]; rfl
    have f2 := v_s4 (x := m1) h hi
    simp only [F_X4_becomePart_L34, F_X4_becomePart_J73, l_0, l_1, l_2, l_3, l_4, l_5, l_6, l_7, l_8, l_9, l_10, l_11, l_12, l_13, l_14, l_15, l_16, l_17, l_18, l_19, l_20, l_21, l_24, l_25, l_26, l_27, l_31, l_33, l_41, l_65, l_67, l_71, l_84, l_120, l_127, l_128, l_130, l_160, l_162, l_200, l_255, l_256, l_999, l_1000, l_8000, l_9999, l_10000, l_8001, l_m1, c1, v_g6 h', v_g6 h, f1, e2, e3, f2, bd2_some, bdx_inl, bdx_inr, bdc_inl, bdc_inr, obd_some, ↓reduceIte, nI_add]
  | succ g =>
    have e2 : mI S (w + 4) i = nI g := by rw [hg, e]; rfl
    have c2 : ¬ nI g = m1 := m1_ne (by omega)
    by_cases c3 : g = a
    · have e3 : gI (aG (aPart r a) i) = nI 1 := by rw [dG, e, if_neg (by omega), if_pos (by omega)]; rfl
      have f2 := v_s4 (x := nI 1) h hi
      subst c3
      simp only [F_X4_becomePart_L34, F_X4_becomePart_J73, l_0, l_1, l_2, l_3, l_4, l_5, l_6, l_7, l_8, l_9, l_10, l_11, l_12, l_13, l_14, l_15, l_16, l_17, l_18, l_19, l_20, l_21, l_24, l_25, l_26, l_27, l_31, l_33, l_41, l_65, l_67, l_71, l_84, l_120, l_127, l_128, l_130, l_160, l_162, l_200, l_255, l_256, l_999, l_1000, l_8000, l_9999, l_10000, l_8001, l_m1, c1, v_g6 h', v_g6 h, f1, e2, e3, c2, f2, bd2_some, bdx_inl, bdx_inr, bdc_inl, bdc_inr, obd_some, ↓reduceIte, nI_add]
    · have c4 : ¬ nI g = nI a := fun q => c3 ((nI_eq (by omega) (by omega)).mp q)
      have e3 : gI (aG (aPart r a) i) = nI 0 := by rw [dG, e, if_neg (by omega), if_neg (by omega)]; rfl
      have f2 := v_s4 (x := nI 0) h hi
      simp only [F_X4_becomePart_L34, F_X4_becomePart_J73, l_0, l_1, l_2, l_3, l_4, l_5, l_6, l_7, l_8, l_9, l_10, l_11, l_12, l_13, l_14, l_15, l_16, l_17, l_18, l_19, l_20, l_21, l_24, l_25, l_26, l_27, l_31, l_33, l_41, l_65, l_67, l_71, l_84, l_120, l_127, l_128, l_130, l_160, l_162, l_200, l_255, l_256, l_999, l_1000, l_8000, l_9999, l_10000, l_8001, l_m1, c1, v_g6 h', v_g6 h, f1, e2, e3, c2, c4, f2, bd2_some, bdx_inl, bdx_inr, bdc_inl, bdc_inr, obd_some, ↓reduceIte, nI_add]
def prtS (S : Mem) (v m : Nat) (h k0 k1 k2 : Int32) : Mem := sI (sI (sI (sI S (v + 5) m h) (v + 6) (10 * m) k0) (v + 6) (10 * m + 1) k1) (v + 6) (10 * m + 2) k2
theorem prtS_Fr {m : Nat} {h k0 k1 k2 : Int32} : zFr v (v + 7) S (prtS S v m h k0 k1 k2) := by
  iterate 3 refine zFr_trans ?_ (zFr_sI (by omega) (by omega))
  exact zFr_sI (by omega) (by omega)
theorem c_prtS {m fu : Nat} (hm : m < 2) (h : zVar S v) (h' : zVar S w) (hd : v + 7 ≤ w ∨ w + 7 ≤ v) (hb : zBo (mI S (w + 5) m)) (ha : a < 4) : F_X4_becomePart_L82 (fu + 1) v w (nI a) (nI m) S = F_X4_becomePart_L82 fu v w (nI a) (nI (m + 1)) (prtS S v m (mI S (w + 5) m) (mI S (w + 6) (10 * m)) (mI S (w + 6) (10 * m + prn 0 a)) (mI S (w + 6) (10 * m + prn a a))) := by
  have c1 : ¬ nI 2 ≤ nI m := nI_ge (by omega) (by omega)
  have p1 := prn_lt (show 0 < 4 by omega) ha
  have p2 := prn_lt ha ha
  have i0 : 10 * m < 20 := by omega
  have i1 : 10 * m + 1 < 20 := by omega
  have i2 : 10 * m + 2 < 20 := by omega
  have i3 : 10 * m + prn 0 a < 20 := by omega
  have i4 : 10 * m + prn a a < 20 := by omega
  have d : ∀ t u, t < 7 → u < 7 → (w + t = v + u) = False := fun t u ht hu => eq_false (by omega)
  simp only [F_X4_becomePart_L82, l_0, l_1, l_2, l_3, l_4, l_5, l_6, l_7, l_8, l_9, l_10, l_11, l_12, l_13, l_14, l_15, l_16, l_17, l_18, l_19, l_20, l_21, l_24, l_25, l_26, l_27, l_31, l_33, l_41, l_65, l_67, l_71, l_84, l_120, l_127, l_128, l_130, l_160, l_162, l_200, l_255, l_256, l_999, l_1000, l_8000, l_9999, l_10000, l_8001, l_m1, c1, v_pk, v_gI, v_pI, v_g3, v_a1, v_s1, v_g4, v_a2, v_s2, v_g5, v_a3, v_s3, v_g6, v_a4, v_s4, v_g7, v_a5, v_s5, v_g8, v_a6, v_s6, zVar_sI, zVar_sF, zVar_zI, zBo_0, zBo_1, h, h', hm, hb, bd2_some, bdx_inl, bdx_inr, bdc_inl, bdc_inr, obd_some, ↓reduceIte, nI_mul, nI_add, i0, i1, i2, i3, i4, c_pair (show 0 < 4 by omega) ha, c_pair ha ha, mI_sI, d, Nat.reduceLT, false_and, prtS]
theorem c_part {p : Nat} {rf : Nat → Nat} (hp : p ≤ 160) (h : zVar S v) (h' : zVar S w) (hd : v + 7 ≤ w ∨ w + 7 ≤ v) (hr : zCR S w r) (hok : aOk p rf r) (ha1 : 1 ≤ a) (ha : a < aN r) : ∃ S', F_X4_becomePart v w (nI a) S = some S' ∧ zFr v (v + 7) S S' ∧ zCR S' v (aPart r a) := by
  have hn4 := hok.1.2
  have ha4 : a < 4 := by omega
  obtain ⟨S1, f1, g1⟩ : ∃ S1, F_X4_clear v S = some S1 ∧ S1 = clrV S v := ⟨_, c_clear h, rfl⟩
  have hF1 : zFr v (v + 7) S S1 := by rw [g1]; exact clr_Fr
  have k0 : mI S1 v 2 = nI 0 := by rw [g1]; exact clr_0.2.2
  clear g1
  have hv1 := zVar_Fr hF1 h
  have hw1 := zVar_Fr hF1 h'
  have hr1 := zCR_Fr hF1 (by omega) hr
  obtain ⟨S2, g2⟩ : ∃ S2, S2 = sI (sI S1 v 0 (nI (aP r))) v 1 (nI (aQ r)) := ⟨_, rfl⟩
  have hF2 : zFr v (v + 7) S1 S2 := by rw [g2]; exact zFr_trans (zFr_sI (by omega) (by omega)) (zFr_sI (by omega) (by omega))
  have hv2 := zVar_Fr hF2 hv1
  have hw2 := zVar_Fr hF2 hw1
  have hr2 := zCR_Fr hF2 (by omega) hr1
  have k2 : mI S2 v 2 = nI 0 := by rw [g2]; simp [mI_sI]; exact k0
  have e3 := c_appOf (a := 0) hv2 hw2 hd k2 (by omega) (by omega)
  obtain ⟨b1, b2, b3⟩ := hr2.2.1 0 (by omega)
  rw [b1, b2, b3] at e3
  obtain ⟨S3, g3⟩ : ∃ S3, S3 = apoV S2 v 0 (nI (aB r 0)) (nI (aL r 0)) (nI (aD r 0)) := ⟨_, rfl⟩
  have hF3 : zFr v (v + 7) S2 S3 := by rw [g3]; exact apo_Fr
  rw [← g3] at e3
  have hv3 := zVar_Fr hF3 hv2
  have hw3 := zVar_Fr hF3 hw2
  have hr3 := zCR_Fr hF3 (by omega) hr2
  have k3 : mI S3 v 2 = nI 1 := by rw [g3]; simp [apoV, appV, mI_sI]
  have e4 := c_appOf (a := a) hv3 hw3 hd k3 (by omega) ha4
  obtain ⟨b4, b5, b6⟩ := hr3.2.1 a ha
  rw [b4, b5, b6] at e4
  obtain ⟨S4, g4⟩ : ∃ S4, S4 = apoV S3 v 1 (nI (aB r a)) (nI (aL r a)) (nI (aD r a)) := ⟨_, rfl⟩
  have hF4 : zFr v (v + 7) S3 S4 := by rw [g4]; exact apo_Fr
  rw [← g4] at e4
  have hv4 := zVar_Fr hF4 hv3
  have hw4 := zVar_Fr hF4 hw3
  have hr4 := zCR_Fr hF4 (by omega) hr3
  have hGl : ∀ i, i < 4 → aG r i ≤ 4 := fun i hi => by have := hok.2.2.2.2.2.1 i hi; omega
  obtain ⟨S5, g5⟩ : ∃ S5, S5 = sI (sI (sI (sI S4 (v + 4) 0 (gI (aG (aPart r a) 0))) (v + 4) 1 (gI (aG (aPart r a) 1))) (v + 4) 2 (gI (aG (aPart r a) 2))) (v + 4) 3 (gI (aG (aPart r a) 3)) := ⟨_, rfl⟩
  have rowG : ∀ T, (∀ b, b ≠ v + 4 → mI T b = mI S4 b) → ∀ i, i < 4 → mI T (w + 4) i = gI (aG r i) := fun T hT i hi => by rw [hT _ (by omega)]; exact hr4.2.2.1 i hi
  have e5 : F_X4_becomePart_L34 FU v w (nI a) (nI 0) S4 = F_X4_becomePart_L82 FU v w (nI a) (nI 0) S5 := by
    have t0 : F_X4_becomePart_L34 (3995 + 1 + 1 + 1 + 1 + 1) v w (nI a) (nI 0) S4 = F_X4_becomePart_L82 FU v w (nI a) (nI 0) S5 := by
      rw [c_prtG (r := r) (by omega) hv4 hw4 (hr4.2.2.1 0 (by omega)) (hGl 0 (by omega)) ha4]
      rw [c_prtG (r := r) (by omega) (by rw [zVar_sI]; exact hv4) (by rw [zVar_sI]; exact hw4) (by rw [mI_sI_r, if_neg (by omega)]; exact hr4.2.2.1 1 (by omega)) (hGl 1 (by omega)) ha4]
      rw [c_prtG (r := r) (by omega) (by rw [zVar_sI, zVar_sI]; exact hv4) (by rw [zVar_sI, zVar_sI]; exact hw4) (by rw [mI_sI_r, if_neg (by omega), mI_sI_r, if_neg (by omega)]; exact hr4.2.2.1 2 (by omega)) (hGl 2 (by omega)) ha4]
      rw [c_prtG (r := r) (by omega) (by rw [zVar_sI, zVar_sI, zVar_sI]; exact hv4) (by rw [zVar_sI, zVar_sI, zVar_sI]; exact hw4) (by rw [mI_sI_r, if_neg (by omega), mI_sI_r, if_neg (by omega), mI_sI_r, if_neg (by omega)]; exact hr4.2.2.1 3 (by omega)) (hGl 3 (by omega)) ha4]
      rw [g5]
      unfold F_X4_becomePart_L34
      rw [if_pos (show (4 : Int32) ≤ nI (0 + 1 + 1 + 1 + 1) by decide)]
      rfl
    exact t0
  have hF5 : zFr v (v + 7) S4 S5 := by
    rw [g5]
    iterate 3 refine zFr_trans ?_ (zFr_sI (by omega) (by omega))
    exact zFr_sI (by omega) (by omega)
  have hv5 := zVar_Fr hF5 hv4
  have hw5 := zVar_Fr hF5 hw4
  have hr5 := zCR_Fr hF5 (by omega) hr4
  have hbo : ∀ T, zCR T w r → ∀ m, m < 2 → zBo (mI T (w + 5) m) := fun T hT m hm => by rw [hT.2.2.2.1 m hm]; exact zBo_of (hok.2.2.2.2.2.2.1 m hm)
  obtain ⟨S6, g6⟩ : ∃ S6, S6 = prtS S5 v 0 (mI S5 (w + 5) 0) (mI S5 (w + 6) (10 * 0)) (mI S5 (w + 6) (10 * 0 + prn 0 a)) (mI S5 (w + 6) (10 * 0 + prn a a)) := ⟨_, rfl⟩
  have hF6 : zFr v (v + 7) S5 S6 := by rw [g6]; exact prtS_Fr
  have hv6 := zVar_Fr hF6 hv5
  have hw6 := zVar_Fr hF6 hw5
  have hr6 := zCR_Fr hF6 (by omega) hr5
  obtain ⟨S7, g7⟩ : ∃ S7, S7 = prtS S6 v 1 (mI S6 (w + 5) 1) (mI S6 (w + 6) (10 * 1)) (mI S6 (w + 6) (10 * 1 + prn 0 a)) (mI S6 (w + 6) (10 * 1 + prn a a)) := ⟨_, rfl⟩
  have hF7 : zFr v (v + 7) S6 S7 := by rw [g7]; exact prtS_Fr
  have e6 : F_X4_becomePart_L82 FU v w (nI a) (nI 0) S5 = some S7 := by
    have t0 : F_X4_becomePart_L82 (3997 + 1 + 1 + 1) v w (nI a) (nI 0) S5 = some S7 := by
      rw [c_prtS (by omega) hv5 hw5 hd (hbo S5 hr5 0 (by omega)) ha4, ← g6]
      rw [c_prtS (by omega) hv6 hw6 hd (hbo S6 hr6 1 (by omega)) ha4, ← g7]
      unfold F_X4_becomePart_L82
      rw [if_pos (show (2 : Int32) ≤ nI (0 + 1 + 1) by decide)]
    exact t0
  refine ⟨S7, ?_, zFr_trans hF1 (zFr_trans hF2 (zFr_trans hF3 (zFr_trans hF4 (zFr_trans hF5 (zFr_trans hF6 hF7))))), ?_⟩
  · have hv1' : zVar (sI S1 v 0 (nI (aP r))) v := hv1
    have hw1' : zVar (sI S1 v 0 (nI (aP r))) w := hw1
    have e7 : mI (sI S1 v 0 (nI (aP r))) w 1 = nI (aQ r) := by rw [mI_sI, if_neg (by omega)]; exact hr1.1.2.1
    simp only [F_X4_becomePart, l_0, l_1, l_2, l_3, l_4, l_5, l_6, l_7, l_8, l_9, l_10, l_11, l_12, l_13, l_14, l_15, l_16, l_17, l_18, l_19, l_20, l_21, l_24, l_25, l_26, l_27, l_31, l_33, l_41, l_65, l_67, l_71, l_84, l_120, l_127, l_128, l_130, l_160, l_162, l_200, l_255, l_256, l_999, l_1000, l_8000, l_9999, l_10000, l_8001, l_m1, v_pk h, f1, v_gI hw1, v_pI hv1, hr1.1.1, v_gI hw1', v_pI hv1', e7, ← g2, v_pk hv2, e3, v_pk hv3, e4, e5, e6, bd2_some, bdx_inl, bdx_inr, bdc_inl, bdc_inr, obd_some]
  · have q12 := prs_le (show 2 ≤ 4 by omega)
    have kk : ∀ m j, m < 2 → j < prs (aN r) → mI S5 (w + 6) (10 * m + j) = nI (aK r (10 * m + j)) ∧ mI S6 (w + 6) (10 * m + j) = nI (aK r (10 * m + j)) := by
      intro m j hm hj
      rcases (show m = 0 ∨ m = 1 by omega) with e | e <;> subst e
      · rw [Nat.mul_zero, Nat.zero_add]; exact ⟨(hr5.2.2.2.2 j hj).1, (hr6.2.2.2.2 j hj).1⟩
      · rw [Nat.mul_one]; exact ⟨(hr5.2.2.2.2 j hj).2, (hr6.2.2.2.2 j hj).2⟩
    have hn2 := hok.1.1
    have z0 : 0 < prs (aN r) := by
      rcases (show aN r = 2 ∨ aN r = 3 ∨ aN r = 4 by omega) with e | e | e <;> rw [e] <;> decide
    have z1 : prn 0 a < prs (aN r) ∧ prn a a < prs (aN r) := by
      rcases (show aN r = 2 ∨ aN r = 3 ∨ aN r = 4 by omega) with e | e | e <;> rw [e] <;> rw [e] at ha <;> rcases (show a = 1 ∨ a = 2 ∨ a = 3 by omega) with e' | e' | e' <;> subst e' <;> first | decide | omega
    refine ⟨⟨?_, ?_, ?_⟩, fun i hi => ?_, fun i hi => ?_, fun i hi => ?_, fun i hi => ?_⟩
    · simp [g7, g6, g5, g4, g3, g2, prtS, apoV, appV, mI_sI, aPart, aP]
    · simp [g7, g6, g5, g4, g3, g2, prtS, apoV, appV, mI_sI, aPart, aQ]
    · simp [g7, g6, g5, g4, g3, g2, prtS, apoV, appV, mI_sI, aPart, aN]
    · have hi2 : i < 2 := hi
      rcases (show i = 0 ∨ i = 1 by omega) with e | e <;> subst e
      · simp [g7, g6, g5, g4, g3, g2, prtS, apoV, appV, mI_sI, aPart, aB, aL, aD]
      · simp [g7, g6, g5, g4, g3, g2, prtS, apoV, appV, mI_sI, aPart, aB, aL, aD]
    · rcases (show i = 0 ∨ i = 1 ∨ i = 2 ∨ i = 3 by omega) with e | e | e | e <;> subst e <;> simp [g7, g6, g5, prtS, mI_sI]
    · have dH : aH (aPart r a) i = aH r i := rfl
      rw [dH]
      rcases (show i = 0 ∨ i = 1 by omega) with e | e <;> subst e
      · rw [← hr5.2.2.2.1 0 (by omega)]; simp [g7, g6, prtS, mI_sI]
      · rw [← hr6.2.2.2.1 1 (by omega)]; simp [g7, prtS, mI_sI]
    · have hi3 : i < 3 := by
        rw [show prs (aN (aPart r a)) = 3 from (by show prs 2 = 3; rfl)] at hi
        exact hi
      have m0 := kk 0 0 (by omega) z0
      have m1' := kk 0 _ (by omega) z1.1
      have m2' := kk 0 _ (by omega) z1.2
      have n0 := kk 1 0 (by omega) z0
      have n1' := kk 1 _ (by omega) z1.1
      have n2' := kk 1 _ (by omega) z1.2
      rw [m0.1, m1'.1, m2'.1] at g6
      rw [n0.2, n1'.2, n2'.2] at g7
      rcases (show i = 0 ∨ i = 1 ∨ i = 2 by omega) with e | e | e <;> subst e
      · simp [g7, g6, prtS, mI_sI, aPart, aK]
      · simp [g7, g6, prtS, mI_sI, aPart, aK]
      · simp [g7, g6, prtS, mI_sI, aPart, aK]
theorem c_spl_L {p i cn : Nat} {rf : Nat → Nat} {rr : Rc} (hp : p ≤ 160) (hok : aOk p rf rr) (hcn : cn + 1 = aN rr) : ∀ (m fu j : Nat) (S : Mem) (pp : Nat → Nat) (ls : List Rc), zSt z S → zLv z S pp ls → zCR S (z + 180) rr → i + j ≤ ls.length → ls.length + m ≤ 24 → j + m = cn → m < fu → i < 24 →
    ∃ S' p', F_X5_split_L87 fu z (nI i) (nI cn) (nI j) S = some (.inl (nI cn), S') ∧ zLF z S S' ∧ zLv z S' p' (spl rr i m j ls) := by
  have hn4 := hok.1.2
  intro m
  induction m with
  | zero =>
    intro fu j S pp ls hS hL hr hl h24 hj hf hi
    obtain ⟨fu, rfl⟩ : ∃ f, fu = f + 1 := ⟨fu - 1, by omega⟩
    have c1 : nI cn ≤ nI j := nI_le (by omega) (by omega)
    refine ⟨S, pp, ?_, ⟨hS, fun _ _ => rfl, rfl, rfl, rfl⟩, hL⟩
    simp only [F_X5_split_L87, c1, ↓reduceIte]
  | succ m ih =>
    intro fu j S pp ls hS hL hr hl h24 hj hf hi
    obtain ⟨fu, rfl⟩ : ∃ f, fu = f + 1 := ⟨fu - 1, by omega⟩
    have c1 : ¬ nI cn ≤ nI j := nI_ge (by omega) (by omega)
    obtain ⟨S1, v, p', q1, q2, q3, q4, q5, q6, q7⟩ := c_room hS hL hl (by omega)
    have hS1 := q2.1
    obtain ⟨S2, r1, r2, r3⟩ := c_part (a := j + 1) hp q4 (v_sc hS1) (by omega) (zCR_of (S := S) (v := z + 180) (fun t ht => q3 _ (by omega)) hr) hok (by omega) (by omega)
    have hL2 := q7 S2 _ r2 r3
    have hS2 := zSt_Fr r2 hS1
    have hr2 : zCR S2 (z + 180) rr := zCR_Fr r2 (by omega) (zCR_of (S := S) (v := z + 180) (fun t ht => q3 _ (by omega)) hr)
    obtain ⟨S3, p3, w1, w2, w3⟩ := ih fu (j + 1) S2 p' _ hS2 hL2 hr2 (by rw [List.length_insertIdx_of_le_length hl]; omega) (by rw [List.length_insertIdx_of_le_length hl]; omega) (by omega) (by omega) hi
    refine ⟨S3, p3, ?_, ?_, w3⟩
    · simp only [F_X5_split_L87, l_0, l_1, l_2, l_3, l_4, l_5, l_6, l_7, l_8, l_9, l_10, l_11, l_12, l_13, l_14, l_15, l_16, l_17, l_18, l_19, l_20, l_21, l_24, l_25, l_26, l_27, l_31, l_33, l_41, l_65, l_67, l_71, l_84, l_120, l_127, l_128, l_130, l_160, l_162, l_200, l_255, l_256, l_999, l_1000, l_8000, l_9999, l_10000, l_8001, l_m1, c1, t_k0, t_g0, t_p0, t_z0, t_k1, t_g1, t_p1, t_z1, t_k3, t_g3, t_p3, t_z3, t_k187, t_g187, t_p187, t_z187, t_k210, t_g210, t_p210, t_z210, t_k212, t_g212, t_p212, t_z212, t_k214, t_g214, t_p214, t_z214, t_r0_0, t_r0_1, t_r0_2, t_r0_4, t_r0_5, t_r0_6, t_r0_7, t_r1_0, t_r3_0, t_r187_0, t_r187_1, t_r187_2, t_r187_3, t_r210_0, t_r212_0, t_r214_1, t_r214_5, t_r214_6, t_r214_8, t_r214_10, t_a2, t_s2, t_a209, t_s209, t_a211, t_s211, t_a213, t_s213, t_a215, t_s215, t_a216, t_s216, t_a217, t_s217, t_a218, t_s218, t_a219, t_s219, t_a4, t_s4, zSt_sI, zSt_sF, zSt_zI, zSt_sJ, zSt_sD, zBo_0, zBo_1, hS, hS1, bd2_some, bdx_inl, bdx_inr, bdc_inl, bdc_inr, obd_some, ↓reduceIte, nI_add, q1, v_pk q4, r1]
      exact w1
    · obtain ⟨a1, a2, a3, a4, a5⟩ := w2
      exact ⟨a1, fun a ha => by rw [a2 a ha, r2.2 a (by omega), q2.2.1 a ha], by rw [a3, zFr_J r2, q2.2.2.1], by rw [a4, zFr_D r2, q2.2.2.2.1], by rw [a5, zFr_X r2, q2.2.2.2.2]⟩
theorem C_split {i : Int32} (hs : xOk s) (h : zCl z s S) : ∃ S', F_L_split z i (z + 220) S = some ((o_split s i).1, S') ∧ zCl z (o_split s i).2.2 S' ∧ zCf z S S' ∧ ((o_split s i).1 = nI 0 → mJ S' (z + 220) 0 = (o_split s i).2.1.toInt64) := by
  obtain ⟨hS, ⟨pp, hL⟩, hR, hD, hT⟩ := id h
  have hl24 := hs.2.2.2.2.1
  have hreq := c_req (i := i) hS hL.2.1
  by_cases c : i < nI 0 ∨ nI (xL s).length ≤ i
  · rw [if_pos c] at hreq
    rw [show o_split s i = (nI 1, nI 0, s) from if_pos c]
    refine ⟨S, ?_, h, zCf_refl hS, fun e => absurd e ne10⟩
    simp only [F_L_split, F_X5_split, l_0, l_1, l_2, l_3, l_4, l_5, l_6, l_7, l_8, l_9, l_10, l_11, l_12, l_13, l_14, l_15, l_16, l_17, l_18, l_19, l_20, l_21, l_24, l_25, l_26, l_27, l_31, l_33, l_41, l_65, l_67, l_71, l_84, l_120, l_127, l_128, l_130, l_160, l_162, l_200, l_255, l_256, l_999, l_1000, l_8000, l_9999, l_10000, l_8001, l_m1, t_k0, t_g0, t_p0, t_z0, t_k1, t_g1, t_p1, t_z1, t_k3, t_g3, t_p3, t_z3, t_k187, t_g187, t_p187, t_z187, t_k210, t_g210, t_p210, t_z210, t_k212, t_g212, t_p212, t_z212, t_k214, t_g214, t_p214, t_z214, t_r0_0, t_r0_1, t_r0_2, t_r0_4, t_r0_5, t_r0_6, t_r0_7, t_r1_0, t_r3_0, t_r187_0, t_r187_1, t_r187_2, t_r187_3, t_r210_0, t_r212_0, t_r214_1, t_r214_5, t_r214_6, t_r214_8, t_r214_10, t_a2, t_s2, t_a209, t_s209, t_a211, t_s211, t_a213, t_s213, t_a215, t_s215, t_a216, t_s216, t_a217, t_s217, t_a218, t_s218, t_a219, t_s219, t_a4, t_s4, zSt_sI, zSt_sF, zSt_zI, zSt_sJ, zSt_sD, zBo_0, zBo_1, hS, bd2_some, bdx_inl, bdx_inr, bdc_inl, bdc_inr, obd_some, hreq, ↓reduceIte]
  rw [if_neg c] at hreq
  have cs := c
  obtain ⟨i', rfl, -, b3⟩ := in_of' (by omega) (fun e => c (Or.inl e)) (fun e => c (Or.inr e)) (by omega)
  have t1 : tn (nI i') = i' := tn_nI (by omega)
  obtain ⟨g1, g2⟩ := xAt_ok hs b3
  obtain ⟨p1, p2⟩ := hL.1.1 i' (by omega)
  have hi24 : i' < 24 := by omega
  have hv : zVar S (z + 5 + 7 * pp i') := t_vi hS (by omega)
  have hr := hL.2.2 i' _ g1
  have o1 := ok31 hs.1 g2
  have hn2 := g2.1.1
  have hn4 := g2.1.2
  have e1 : nI (aN (xAt s i')) - nI 1 = nI (aN (xAt s i') - 1) := nI_sub1 (by omega)
  have e2 : nI (xL s).length - nI 1 = nI ((xL s).length - 1) := nI_sub1 (by omega)
  by_cases c2 : aN (xAt s i') < 3
  · have c2' : ¬ nI 2 ≤ nI (aN (xAt s i') - 1) := nI_ge (by omega) (by omega)
    rw [show o_split s (nI i') = (nI 2, nI 0, s) from by unfold o_split; rw [if_neg cs, t1, if_pos (Or.inl c2)]]
    refine ⟨S, ?_, h, zCf_refl hS, fun e => absurd e n20⟩
    simp only [F_L_split, F_X5_split, l_0, l_1, l_2, l_3, l_4, l_5, l_6, l_7, l_8, l_9, l_10, l_11, l_12, l_13, l_14, l_15, l_16, l_17, l_18, l_19, l_20, l_21, l_24, l_25, l_26, l_27, l_31, l_33, l_41, l_65, l_67, l_71, l_84, l_120, l_127, l_128, l_130, l_160, l_162, l_200, l_255, l_256, l_999, l_1000, l_8000, l_9999, l_10000, l_8001, l_m1, t_k0, t_g0, t_p0, t_z0, t_k1, t_g1, t_p1, t_z1, t_k3, t_g3, t_p3, t_z3, t_k187, t_g187, t_p187, t_z187, t_k210, t_g210, t_p210, t_z210, t_k212, t_g212, t_p212, t_z212, t_k214, t_g214, t_p214, t_z214, t_r0_0, t_r0_1, t_r0_2, t_r0_4, t_r0_5, t_r0_6, t_r0_7, t_r1_0, t_r3_0, t_r187_0, t_r187_1, t_r187_2, t_r187_3, t_r210_0, t_r212_0, t_r214_1, t_r214_5, t_r214_6, t_r214_8, t_r214_10, t_a2, t_s2, t_a209, t_s209, t_a211, t_s211, t_a213, t_s213, t_a215, t_s215, t_a216, t_s216, t_a217, t_s217, t_a218, t_s218, t_a219, t_s219, t_a4, t_s4, zSt_sI, zSt_sF, zSt_zI, zSt_sJ, zSt_sD, zBo_0, zBo_1, hS, bd2_some, bdx_inl, bdx_inr, bdc_inl, bdc_inr, obd_some, hreq, hi24, p2, v_gI hv, hr.1.2.2, e1, c2', ↓reduceIte, String.reduceEq]
  have c2' : nI 2 ≤ nI (aN (xAt s i') - 1) := nI_le (by omega) (by omega)
  by_cases c3 : 24 < (xL s).length + aN (xAt s i') - 2
  · have c3' : ¬ nI ((xL s).length - 1 + (aN (xAt s i') - 1)) ≤ nI 24 := nI_ge (by omega) (by omega)
    rw [show o_split s (nI i') = (nI 2, nI 0, s) from by unfold o_split; rw [if_neg cs, t1, if_pos (Or.inr c3)]]
    refine ⟨S, ?_, h, zCf_refl hS, fun e => absurd e n20⟩
    simp only [F_L_split, F_X5_split, l_0, l_1, l_2, l_3, l_4, l_5, l_6, l_7, l_8, l_9, l_10, l_11, l_12, l_13, l_14, l_15, l_16, l_17, l_18, l_19, l_20, l_21, l_24, l_25, l_26, l_27, l_31, l_33, l_41, l_65, l_67, l_71, l_84, l_120, l_127, l_128, l_130, l_160, l_162, l_200, l_255, l_256, l_999, l_1000, l_8000, l_9999, l_10000, l_8001, l_m1, t_k0, t_g0, t_p0, t_z0, t_k1, t_g1, t_p1, t_z1, t_k3, t_g3, t_p3, t_z3, t_k187, t_g187, t_p187, t_z187, t_k210, t_g210, t_p210, t_z210, t_k212, t_g212, t_p212, t_z212, t_k214, t_g214, t_p214, t_z214, t_r0_0, t_r0_1, t_r0_2, t_r0_4, t_r0_5, t_r0_6, t_r0_7, t_r1_0, t_r3_0, t_r187_0, t_r187_1, t_r187_2, t_r187_3, t_r210_0, t_r212_0, t_r214_1, t_r214_5, t_r214_6, t_r214_8, t_r214_10, t_a2, t_s2, t_a209, t_s209, t_a211, t_s211, t_a213, t_s213, t_a215, t_s215, t_a216, t_s216, t_a217, t_s217, t_a218, t_s218, t_a219, t_s219, t_a4, t_s4, zSt_sI, zSt_sF, zSt_zI, zSt_sJ, zSt_sD, zBo_0, zBo_1, hS, bd2_some, bdx_inl, bdx_inr, bdc_inl, bdc_inr, obd_some, hreq, hi24, p2, v_gI hv, hr.1.2.2, hL.2.1, e1, e2, nI_add, c2', c3', ↓reduceIte, String.reduceEq]
  have c3' : nI ((xL s).length - 1 + (aN (xAt s i') - 1)) ≤ nI 24 := nI_le (by omega) (by omega)
  obtain ⟨S1, q1, q2, q3⟩ := c_copy (v := z + 180) (v_sc hS) hv (by omega) hr o1.2.2.1 o1.2.2.2
  have hS1 := zSt_Fr q2 hS
  have hL1 : zLv z S1 pp (xL s) := zLv_of (by rw [zFr_R q2]) (fun a h1 h2 => q2.2 a (by omega)) hl24 hL
  obtain ⟨S3, p3, u1, u2, u3, u4, u5⟩ := c_erase hS1 hL1 b3 hl24
  have hS3 := u2.1
  have hlen : ((xL s).eraseIdx i').length = (xL s).length - 1 := List.length_eraseIdx_of_lt b3
  obtain ⟨S4, p4, w1, w2, w3⟩ := c_spl_L (z := z) (i := i') (cn := aN (xAt s i') - 1) (rr := xAt s i') hs.1 g2 (by omega) (aN (xAt s i') - 1) FU 0 S3 p3 _ hS3 u4 (zCR_of (S := S1) (v := z + 180) (fun t ht => u3 _ (by omega)) q3) (by omega) (by omega) (by omega) (by show aN (xAt s i') - 1 < 4000; omega) hi24
  have hS4 := w2.1
  rw [show o_split s (nI i') = (nI 0, nI (aN (xAt s i') - 1), wList s (spl (xAt s i') i' (aN (xAt s i') - 1) 0 ((xL s).eraseIdx i'))) from by unfold o_split; rw [if_neg cs, t1, if_neg (by omega)]]
  have rows : ∀ a, (a < z + 3 ∨ z + 173 ≤ a) → (a < z + 180 ∨ z + 187 ≤ a) → mI S4 a = mI S a := by
    intro a h1 h2
    rw [w2.2.1 a h1, u3 a (by omega), q2.2 a (by omega)]
  refine ⟨sJ S4 (z + 220) 0 (nI (aN (xAt s i') - 1)).toInt64, ?_, zCl_sJ ?_, zCf_sJ ⟨hS4, fun a ha => rows a (by omega) (by omega)⟩, fun _ => mJ_sJ⟩
  · simp only [F_L_split, F_X5_split, l_0, l_1, l_2, l_3, l_4, l_5, l_6, l_7, l_8, l_9, l_10, l_11, l_12, l_13, l_14, l_15, l_16, l_17, l_18, l_19, l_20, l_21, l_24, l_25, l_26, l_27, l_31, l_33, l_41, l_65, l_67, l_71, l_84, l_120, l_127, l_128, l_130, l_160, l_162, l_200, l_255, l_256, l_999, l_1000, l_8000, l_9999, l_10000, l_8001, l_m1, t_k0, t_g0, t_p0, t_z0, t_k1, t_g1, t_p1, t_z1, t_k3, t_g3, t_p3, t_z3, t_k187, t_g187, t_p187, t_z187, t_k210, t_g210, t_p210, t_z210, t_k212, t_g212, t_p212, t_z212, t_k214, t_g214, t_p214, t_z214, t_r0_0, t_r0_1, t_r0_2, t_r0_4, t_r0_5, t_r0_6, t_r0_7, t_r1_0, t_r3_0, t_r187_0, t_r187_1, t_r187_2, t_r187_3, t_r210_0, t_r212_0, t_r214_1, t_r214_5, t_r214_6, t_r214_8, t_r214_10, t_a2, t_s2, t_a209, t_s209, t_a211, t_s211, t_a213, t_s213, t_a215, t_s215, t_a216, t_s216, t_a217, t_s217, t_a218, t_s218, t_a219, t_s219, t_a4, t_s4, zSt_sI, zSt_sF, zSt_zI, zSt_sJ, zSt_sD, zBo_0, zBo_1, hS, hS1, hS3, bd2_some, bdx_inl, bdx_inr, bdc_inl, bdc_inr, obd_some, hreq, hi24, p2, v_gI hv, hr.1.2.2, hL.2.1, e1, e2, nI_add, c2', c3', ↓reduceIte, v_pk (v_sc hS), q1, u1, w1, t_sJ hS4]
  · exact zCl_list h hS4 ⟨p4, w3⟩ (fun a ha => rows a (by omega) (by omega))
end C8
