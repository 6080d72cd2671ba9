set_option maxRecDepth 20000
/-- what stands in the joined likelihoods when the pairs before (k, j) are taken in -/
def jKv (y : Rc) (w base : Nat → Nat) (m k j : Nat) (Kr : Nat → Nat) : Prop :=
  (∀ k' j', j' ≤ k' → k' < aN y → (k' < k ∨ (k' = k ∧ j' < j)) → Kr (10 * m + prn (w j') (w k')) = min (base (10 * m + prn (w j') (w k'))) (aK y (10 * m + prn j' k'))) ∧
  ∀ i, i < 10 → (∀ k' j', j' ≤ k' → k' < aN y → (k' < k ∨ (k' = k ∧ j' < j)) → prn (w j') (w k') ≠ i) → Kr (10 * m + i) = base (10 * m + i)
section C11
variable {S S' S1 S2 : Mem} {z v n a lo hi o k : Nat} {x y : Rc} {s : As} {L B w D base : Nat → Nat}
theorem jKv_step {m k j : Nat} {Kr : Nat → Nat} (hw4 : ∀ b, b < aN y → w b < 4) (winj : ∀ b c, b < aN y → c < aN y → w b = w c → b = c) (hj : j ≤ k) (hk : k < aN y) (h : jKv y w base m k j Kr) : jKv y w base m k (j + 1) (va_up Kr (10 * m + prn (w j) (w k)) (min (base (10 * m + prn (w j) (w k))) (aK y (10 * m + prn j k)))) ∧ Kr (10 * m + prn (w j) (w k)) = base (10 * m + prn (w j) (w k)) := by
  have nodup : ∀ k' j', j' ≤ k' → k' < aN y → prn (w j') (w k') = prn (w j) (w k) → j' = j ∧ k' = k := by
    intro k' j' h1 h2 e
    rcases prn_inj (hw4 j' (by omega)) (hw4 k' h2) (hw4 j (by omega)) (hw4 k hk) e with ⟨e1, e2⟩ | ⟨e1, e2⟩
    · exact ⟨winj _ _ (by omega) (by omega) e1, winj _ _ h2 hk e2⟩
    · have q1 := winj _ _ (by omega) hk e1
      have q2 := winj _ _ h2 (by omega) e2
      omega
  obtain ⟨hA, hB⟩ := h
  have p10 := prn_lt (hw4 j (by omega)) (hw4 k hk)
  refine ⟨⟨fun k' j' h1 h2 h3 => ?_, fun i hi h3 => ?_⟩, ?_⟩
  · rw [up_at]
    by_cases e : j' = j ∧ k' = k
    · rw [e.1, e.2, if_pos rfl]
    · rw [if_neg (fun q => e (nodup k' j' h1 h2 (by omega)))]
      exact hA k' j' h1 h2 (by omega)
  · rw [up_at, if_neg]
    · exact hB i hi (fun k' j' h1 h2 h4 => h3 k' j' h1 h2 (by omega))
    · intro q
      exact h3 k j hj hk (by omega) (by omega)
  · refine hB _ p10 (fun k' j' h1 h2 h3 q => ?_)
    have := nodup k' j' h1 h2 q
    omega
theorem c_uL_L {m k : Nat} {K12 : Nat → Int32 → Mem → Option Mem} {K50 : Nat → Int32 → Int32 → Int32 → Mem → Option Mem} (hm : m < 2) (hk : k < aN y) (hy4 : aN y ≤ 4) (hw4 : ∀ b, b < aN y → w b < 4) (winj : ∀ b c, b < aN y → c < aN y → w b = w c → b = c) (hKy : ∀ i, i < prs (aN y) → aK y i ≤ 999 ∧ aK y (10 + i) ≤ 999) (hb : ∀ i, base i ≤ 999) :
    ∀ (q fu j : Nat) (Kr : Nat → Nat) (S : Mem), zSt z S → zCR S (z + 195) y → (∀ i, i < aN y → mI S (z + 209) i = nI (w i)) → (∀ i, i < 20 → mI S (z + 202 + 6) i = nI (Kr i)) → jKv y w base m k j Kr → j + q = k + 1 → q < fu →
    ∃ (S' : Mem) (Kr' : Nat → Nat), F_X1_uniteLikelihoods_L64 K12 K50 fu (z + 187) (nI m) (nI (10 * m)) (nI k) (nI j) S = K50 (z + 187) (nI m) (nI (10 * m)) (nI (k + 1)) S' ∧ zFr (z + 202 + 6) (z + 202 + 7) S S' ∧ (∀ i, i < 20 → mI S' (z + 202 + 6) i = nI (Kr' i)) ∧ jKv y w base m k (k + 1) Kr' ∧ ∀ i, (i < 10 * m ∨ 10 * m + 10 ≤ i) → Kr' i = Kr i := by
  intro q
  induction q with
  | zero =>
    intro fu j Kr S hS hy hW hK hv hj hf
    obtain ⟨fu, rfl⟩ : ∃ f, fu = f + 1 := ⟨fu - 1, by omega⟩
    have c1 : nI k < nI j := nI_lt (by omega) (by omega)
    have ej : j = k + 1 := by omega
    subst ej
    refine ⟨S, Kr, ?_, zFr_refl, hK, hv, fun _ _ => rfl⟩
    simp only [F_X1_uniteLikelihoods_L64, l_0, l_1, l_2, l_3, l_4, l_5, l_6, l_7, l_8, l_9, l_10, l_11, l_12, l_13, l_14, l_15, l_16, l_17, l_18, l_19, l_20, l_21, l_24, l_25, l_26, l_27, l_31, l_33, l_41, l_65, l_67, l_71, l_84, l_120, l_127, l_128, l_130, l_160, l_162, l_200, l_255, l_256, l_999, l_1000, l_8000, l_9999, l_10000, l_8001, l_m1, c1, ↓reduceIte, nI_add]
  | succ q ih =>
    intro fu j Kr S hS hy hW hK hv hj hf
    obtain ⟨fu, rfl⟩ : ∃ f, fu = f + 1 := ⟨fu - 1, by omega⟩
    have c1 : ¬ nI k < nI j := nI_nlt (by omega) (by omega)
    have hv2 := v_j2 hS
    have hvj := v_jj hS
    have j4 : j < 4 := by omega
    have k4 : k < 4 := by omega
    have eW1 := hW j (by omega)
    have eW2 := hW k hk
    have p1 := prn_lt (hw4 j (by omega)) (hw4 k hk)
    have p2 := prn_prs (aN y) hy4 j (by omega) k hk
    have p3 := prs_le hy4
    have e1 := c_pair (S := S) (hw4 j (by omega)) (hw4 k hk)
    have e2 := c_pair (S := S) j4 k4
    have i1 : 10 * m + prn j k < 20 := by omega
    have i2 : 10 * m + prn (w j) (w k) < 20 := by omega
    have e3 := v_a6 hv2 i1
    have e4 : mI S (z + 195 + 6) (10 * m + prn j k) = nI (aK y (10 * m + prn j k)) := by
      rcases (show m = 0 ∨ m = 1 by omega) with e | e <;> subst e
      · rw [Nat.mul_zero, Nat.zero_add]; exact (hy.2.2.2.2 _ p2).1
      · rw [Nat.mul_one]; exact (hy.2.2.2.2 _ p2).2
    have e4b : aK y (10 * m + prn j k) ≤ 999 := by
      rcases (show m = 0 ∨ m = 1 by omega) with e | e <;> subst e
      · rw [Nat.mul_zero, Nat.zero_add]; exact (hKy _ p2).1
      · rw [Nat.mul_one]; exact (hKy _ p2).2
    have e5 := v_a6 hvj i2
    have e6 := hK _ i2
    obtain ⟨s1, s2⟩ := jKv_step hw4 winj (by omega) hk hv
    have e7 : (if nI (aK y (10 * m + prn j k)) < nI (Kr (10 * m + prn (w j) (w k))) then nI (aK y (10 * m + prn j k)) else nI (Kr (10 * m + prn (w j) (w k)))) = nI (min (base (10 * m + prn (w j) (w k))) (aK y (10 * m + prn j k))) := by
      rw [s2]
      have hbb := hb (10 * m + prn (w j) (w k))
      have q0 := i_lt (a := aK y (10 * m + prn j k)) (b := base (10 * m + prn (w j) (w k))) (by omega) (by omega)
      by_cases c : aK y (10 * m + prn j k) < base (10 * m + prn (w j) (w k))
      · rw [if_pos (by rw [q0]; exact c)]; congr 1; omega
      · rw [if_neg (by rw [q0]; exact c)]; congr 1; omega
    have e8 := v_s6 (x := nI (min (base (10 * m + prn (w j) (w k))) (aK y (10 * m + prn j k)))) hvj i2
    have f0 : zFr (z + 202 + 6) (z + 202 + 7) S (sI S (z + 202 + 6) (10 * m + prn (w j) (w k)) (nI (min (base (10 * m + prn (w j) (w k))) (aK y (10 * m + prn j k))))) := zFr_sI (by omega) (by omega)
    obtain ⟨S', Kr', r1, r2, r3, r4, r5⟩ := ih fu (j + 1) _ _ (zSt_Fr f0 hS) (zCR_Fr f0 (by omega) hy) (fun i hi => by rw [f0.2 _ (by omega)]; exact hW i hi) (by
      intro i hi
      rw [mI_sI, up_at]
      by_cases e : i = 10 * m + prn (w j) (w k)
      · rw [if_pos ⟨rfl, e⟩, if_pos e]
      · rw [if_neg (by omega), if_neg e]; exact hK i hi) s1 (by omega) (by omega)
    refine ⟨S', Kr', ?_, zFr_trans f0 r2, r3, r4, fun i hi => ?_⟩
    · simp only [F_X1_uniteLikelihoods_L64, l_0, l_1, l_2, l_3, l_4, l_5, l_6, l_7, l_8, l_9, l_10, l_11, l_12, l_13, l_14, l_15, l_16, l_17, l_18, l_19, l_20, l_21, l_24, l_25, l_26, l_27, l_31, l_33, l_41, l_65, l_67, l_71, l_84, l_120, l_127, l_128, l_130, l_160, l_162, l_200, l_255, l_256, l_999, l_1000, l_8000, l_9999, l_10000, l_8001, l_m1, t_k0, t_g0, t_p0, t_z0, t_k1, t_g1, t_p1, t_z1, t_k3, t_g3, t_p3, t_z3, t_k187, t_g187, t_p187, t_z187, t_k210, t_g210, t_p210, t_z210, t_k212, t_g212, t_p212, t_z212, t_k214, t_g214, t_p214, t_z214, t_r0_0, t_r0_1, t_r0_2, t_r0_4, t_r0_5, t_r0_6, t_r0_7, t_r1_0, t_r3_0, t_r187_0, t_r187_1, t_r187_2, t_r187_3, t_r210_0, t_r212_0, t_r214_1, t_r214_5, t_r214_6, t_r214_8, t_r214_10, t_a2, t_s2, t_a209, t_s209, t_a211, t_s211, t_a213, t_s213, t_a215, t_s215, t_a216, t_s216, t_a217, t_s217, t_a218, t_s218, t_a219, t_s219, t_a4, t_s4, zSt_sI, zSt_sF, zSt_zI, zSt_sJ, zSt_sD, zBo_0, zBo_1, hS, c1, j4, k4, eW1, eW2, e1, e2, v_g8 hv2, v_g8 hvj, nI_add, e3, e4, e5, e6, e7, e8, bd2_some, bdx_inl, bdx_inr, bdc_inl, bdc_inr, obd_some, ↓reduceIte]
      exact r1
    · rw [r5 i hi, up_at, if_neg (by omega)]
theorem jKv_next {m k : Nat} {Kr : Nat → Nat} (h : jKv y w base m k (k + 1) Kr) : jKv y w base m (k + 1) 0 Kr :=
  ⟨fun k' j' h1 h2 h3 => h.1 k' j' h1 h2 (by omega), fun i hi h3 => h.2 i hi (fun k' j' h1 h2 h4 => h3 k' j' h1 h2 (by omega))⟩
theorem c_uK_L {m : Nat} {K12 : Nat → Int32 → Mem → Option Mem} (hm : m < 2) (hy4 : aN y ≤ 4) (hw4 : ∀ b, b < aN y → w b < 4) (winj : ∀ b c, b < aN y → c < aN y → w b = w c → b = c) (hKy : ∀ i, i < prs (aN y) → aK y i ≤ 999 ∧ aK y (10 + i) ≤ 999) (hb : ∀ i, base i ≤ 999) :
    ∀ (q fu k : Nat) (Kr : Nat → Nat) (S : Mem), zSt z S → zCR S (z + 195) y → (∀ i, i < aN y → mI S (z + 209) i = nI (w i)) → (∀ i, i < 20 → mI S (z + 202 + 6) i = nI (Kr i)) → jKv y w base m k 0 Kr → k + q = aN y → q < fu →
    ∃ (S' : Mem) (Kr' : Nat → Nat), F_X1_uniteLikelihoods_L50 K12 fu (z + 187) (nI m) (nI (10 * m)) (nI k) S = K12 (z + 187) (nI (m + 1)) S' ∧ zFr (z + 202 + 6) (z + 202 + 7) S S' ∧ (∀ i, i < 20 → mI S' (z + 202 + 6) i = nI (Kr' i)) ∧ jKv y w base m (aN y) 0 Kr' ∧ ∀ i, (i < 10 * m ∨ 10 * m + 10 ≤ i) → Kr' i = Kr i := by
  intro q
  induction q with
  | zero =>
    intro fu k Kr S hS hy hW hK hv hj hf
    obtain ⟨fu, rfl⟩ : ∃ f, fu = f + 1 := ⟨fu - 1, by omega⟩
    have c1 : nI (aN y) ≤ nI k := nI_le (by omega) (by omega)
    have ek : k = aN y := by omega
    subst ek
    refine ⟨S, Kr, ?_, zFr_refl, hK, hv, fun _ _ => rfl⟩
    simp only [F_X1_uniteLikelihoods_L50, l_0, l_1, l_2, l_3, l_4, l_5, l_6, l_7, l_8, l_9, l_10, l_11, l_12, l_13, l_14, l_15, l_16, l_17, l_18, l_19, l_20, l_21, l_24, l_25, l_26, l_27, l_31, l_33, l_41, l_65, l_67, l_71, l_84, l_120, l_127, l_128, l_130, l_160, l_162, l_200, l_255, l_256, l_999, l_1000, l_8000, l_9999, l_10000, l_8001, l_m1, t_k0, t_g0, t_p0, t_z0, t_k1, t_g1, t_p1, t_z1, t_k3, t_g3, t_p3, t_z3, t_k187, t_g187, t_p187, t_z187, t_k210, t_g210, t_p210, t_z210, t_k212, t_g212, t_p212, t_z212, t_k214, t_g214, t_p214, t_z214, t_r0_0, t_r0_1, t_r0_2, t_r0_4, t_r0_5, t_r0_6, t_r0_7, t_r1_0, t_r3_0, t_r187_0, t_r187_1, t_r187_2, t_r187_3, t_r210_0, t_r212_0, t_r214_1, t_r214_5, t_r214_6, t_r214_8, t_r214_10, t_a2, t_s2, t_a209, t_s209, t_a211, t_s211, t_a213, t_s213, t_a215, t_s215, t_a216, t_s216, t_a217, t_s217, t_a218, t_s218, t_a219, t_s219, t_a4, t_s4, zSt_sI, zSt_sF, zSt_zI, zSt_sJ, zSt_sD, zBo_0, zBo_1, hS, v_gI (v_j2 hS), hy.1.2.2, c1, bd2_some, bdx_inl, bdx_inr, bdc_inl, bdc_inr, obd_some, ↓reduceIte, nI_add]
  | succ q ih =>
    intro fu k Kr S hS hy hW hK hv hj hf
    obtain ⟨fu, rfl⟩ : ∃ f, fu = f + 1 := ⟨fu - 1, by omega⟩
    have c1 : ¬ nI (aN y) ≤ nI k := nI_ge (by omega) (by omega)
    obtain ⟨S1, Kr1, r1, r2, r3, r4, r5⟩ := c_uL_L (K12 := K12) (K50 := F_X1_uniteLikelihoods_L50 K12 fu) (k := k) hm (by omega) hy4 hw4 winj hKy hb (k + 1) FU 0 Kr S hS hy hW hK hv (by omega) (by show k + 1 < 4000; omega)
    obtain ⟨S2, Kr2, u1, u2, u3, u4, u5⟩ := ih fu (k + 1) Kr1 S1 (zSt_Fr r2 hS) (zCR_Fr r2 (by omega) hy) (fun i hi => by rw [r2.2 _ (by omega)]; exact hW i hi) r3 (jKv_next r4) (by omega) (by omega)
    refine ⟨S2, Kr2, ?_, zFr_trans r2 u2, u3, u4, fun i hi => by rw [u5 i hi, r5 i hi]⟩
    simp only [F_X1_uniteLikelihoods_L50, l_0, l_1, l_2, l_3, l_4, l_5, l_6, l_7, l_8, l_9, l_10, l_11, l_12, l_13, l_14, l_15, l_16, l_17, l_18, l_19, l_20, l_21, l_24, l_25, l_26, l_27, l_31, l_33, l_41, l_65, l_67, l_71, l_84, l_120, l_127, l_128, l_130, l_160, l_162, l_200, l_255, l_256, l_999, l_1000, l_8000, l_9999, l_10000, l_8001, l_m1, t_k0, t_g0, t_p0, t_z0, t_k1, t_g1, t_p1, t_z1, t_k3, t_g3, t_p3, t_z3, t_k187, t_g187, t_p187, t_z187, t_k210, t_g210, t_p210, t_z210, t_k212, t_g212, t_p212, t_z212, t_k214, t_g214, t_p214, t_z214, t_r0_0, t_r0_1, t_r0_2, t_r0_4, t_r0_5, t_r0_6, t_r0_7, t_r1_0, t_r3_0, t_r187_0, t_r187_1, t_r187_2, t_r187_3, t_r210_0, t_r212_0, t_r214_1, t_r214_5, t_r214_6, t_r214_8, t_r214_10, t_a2, t_s2, t_a209, t_s209, t_a211, t_s211, t_a213, t_s213, t_a215, t_s215, t_a216, t_s216, t_a217, t_s217, t_a218, t_s218, t_a219, t_s219, t_a4, t_s4, zSt_sI, zSt_sF, zSt_zI, zSt_sJ, zSt_sD, zBo_0, zBo_1, hS, v_gI (v_j2 hS), hy.1.2.2, c1, bd2_some, bdx_inl, bdx_inr, bdc_inl, bdc_inr, obd_some, ↓reduceIte]
    rw [r1, u1]
theorem c_uS {m fu : Nat} (hm : m < 2) (hx4 : aN x ≤ 4) (hy4 : aN y ≤ 4) (hw : ∀ b, b < aN y → w b < n) (hn : n ≤ 4) (winj : ∀ b c, b < aN y → c < aN y → w b = w c → b = c) (hKx : ∀ i, i < prs (aN x) → aK x i ≤ 999 ∧ aK x (10 + i) ≤ 999) (hKy : ∀ i, i < prs (aN y) → aK y i ≤ 999 ∧ aK y (10 + i) ≤ 999)
    (hS : zSt z S) (hx : zCR S (z + 188) x) (hy : zCR S (z + 195) y) (hW : ∀ i, i < aN y → mI S (z + 209) i = nI (w i)) (Kr : Nat → Nat) (hK : ∀ i, i < 20 → mI S (z + 202 + 6) i = nI (Kr i)) (h9 : ∀ i, i < 10 → Kr (10 * m + i) = 999) :
    ∃ (S' : Mem) (Kr' : Nat → Nat), F_X1_uniteLikelihoods_L12 (fu + 1) (z + 187) (nI m) S = F_X1_uniteLikelihoods_L12 fu (z + 187) (nI (m + 1)) S' ∧ zFr (z + 202 + 6) (z + 202 + 7) S S' ∧ (∀ i, i < 20 → mI S' (z + 202 + 6) i = nI (Kr' i)) ∧ (∀ i, i < prs n → Kr' (10 * m + i) = aK (jRec x y n L B w) (10 * m + i)) ∧ ∀ i, (i < 10 * m ∨ 10 * m + 10 ≤ i) → Kr' i = Kr i := by
  have hv1 := v_j1 hS
  have hvj := v_jj hS
  have px := prs_le hx4
  have pn := prs_le hn
  have i0 : 10 * m + prs (aN x) ≤ 20 := by omega
  have cp := v_c6 (a := 10 * m) (c := prs (aN x)) hvj hv1 i0
  have fc : zFr (z + 202 + 6) (z + 202 + 7) S (sF S (z + 202 + 6) (va_cpy (mI S (z + 188 + 6)) (mI S (z + 202 + 6)) (10 * m) (10 * m) (prs (aN x)))) := zFr_sF (by omega) (by omega)
  have hxK : ∀ i, i < prs (aN x) → mI S (z + 188 + 6) (10 * m + i) = nI (aK x (10 * m + i)) ∧ aK x (10 * m + i) ≤ 999 := by
    intro i hi
    rcases (show m = 0 ∨ m = 1 by omega) with e | e <;> subst e
    · rw [Nat.mul_zero, Nat.zero_add]; exact ⟨(hx.2.2.2.2 i hi).1, (hKx i hi).1⟩
    · rw [Nat.mul_one]; exact ⟨(hx.2.2.2.2 i hi).2, (hKx i hi).2⟩
  obtain ⟨base, hbase⟩ : ∃ base : Nat → Nat, base = fun i => if 10 * m ≤ i ∧ i < 10 * m + prs (aN x) then aK x i else 999 := ⟨_, rfl⟩
  have hb9 : ∀ i, base i ≤ 999 := by
    intro i
    rw [hbase]
    show (if 10 * m ≤ i ∧ i < 10 * m + prs (aN x) then aK x i else 999) ≤ 999
    split
    · next c =>
      have := (hxK (i - 10 * m) (by omega)).2
      rw [show 10 * m + (i - 10 * m) = i by omega] at this
      exact this
    · omega
  obtain ⟨K1, hK1⟩ : ∃ K1 : Nat → Nat, K1 = fun i => if 10 * m ≤ i ∧ i < 10 * m + prs (aN x) then aK x i else Kr i := ⟨_, rfl⟩
  have gw4 : ∀ b, b < aN y → w b < 4 := fun b hb => by have := hw b hb; omega
  obtain ⟨S1, Kr1, r1, r2, r3, r4, r5⟩ := c_uK_L (z := z) (y := y) (w := w) (base := base) (m := m) (K12 := F_X1_uniteLikelihoods_L12 fu) hm hy4 gw4 winj hKy hb9 (aN y) FU 0 K1 _ (zSt_Fr fc hS) (zCR_Fr fc (by omega) hy) (fun i hi => by rw [fc.2 _ (by omega)]; exact hW i hi) (by
    intro i hi
    rw [mI_sF, if_pos rfl, hK1]
    show va_cpy _ _ _ _ _ i = nI (if 10 * m ≤ i ∧ i < 10 * m + prs (aN x) then aK x i else Kr i)
    unfold va_cpy
    by_cases c : 10 * m ≤ i ∧ i < 10 * m + prs (aN x)
    · rw [if_pos c, if_pos c]
      have := (hxK (i - 10 * m) (by omega)).1
      rw [this, show 10 * m + (i - 10 * m) = i by omega]
    · rw [if_neg c, if_neg c]; exact hK i hi) ⟨fun k' j' h1 h2 h3 => by omega, fun i hi _ => by
    rw [hK1, hbase]
    show (if 10 * m ≤ 10 * m + i ∧ 10 * m + i < 10 * m + prs (aN x) then aK x (10 * m + i) else Kr (10 * m + i)) = (if 10 * m ≤ 10 * m + i ∧ 10 * m + i < 10 * m + prs (aN x) then aK x (10 * m + i) else 999)
    rw [h9 i hi]⟩ (by omega) (by show aN y < 4000; omega)
  refine ⟨S1, Kr1, ?_, zFr_trans fc r2, r3, fun i hi => ?_, fun i hi => ?_⟩
  · have c1 : ¬ nI 2 ≤ nI m := nI_ge (by omega) (by omega)
    have e1 := c_pairs hv1 hx.1.2.2 hx4
    simp only [F_X1_uniteLikelihoods_L12, l_0, l_1, l_2, l_3, l_4, l_5, l_6, l_7, l_8, l_9, l_10, l_11, l_12, l_13, l_14, l_15, l_16, l_17, l_18, l_19, l_20, l_21, l_24, l_25, l_26, l_27, l_31, l_33, l_41, l_65, l_67, l_71, l_84, l_120, l_127, l_128, l_130, l_160, l_162, l_200, l_255, l_256, l_999, l_1000, l_8000, l_9999, l_10000, l_8001, l_m1, t_k0, t_g0, t_p0, t_z0, t_k1, t_g1, t_p1, t_z1, t_k3, t_g3, t_p3, t_z3, t_k187, t_g187, t_p187, t_z187, t_k210, t_g210, t_p210, t_z210, t_k212, t_g212, t_p212, t_z212, t_k214, t_g214, t_p214, t_z214, t_r0_0, t_r0_1, t_r0_2, t_r0_4, t_r0_5, t_r0_6, t_r0_7, t_r1_0, t_r3_0, t_r187_0, t_r187_1, t_r187_2, t_r187_3, t_r210_0, t_r212_0, t_r214_1, t_r214_5, t_r214_6, t_r214_8, t_r214_10, t_a2, t_s2, t_a209, t_s209, t_a211, t_s211, t_a213, t_s213, t_a215, t_s215, t_a216, t_s216, t_a217, t_s217, t_a218, t_s218, t_a219, t_s219, t_a4, t_s4, zSt_sI, zSt_sF, zSt_zI, zSt_sJ, zSt_sD, zBo_0, zBo_1, hS, c1, v_g8 hv1, v_g8 hvj, v_pk hv1, e1, nI_mul, cp, bd2_some, bdx_inl, bdx_inr, bdc_inl, bdc_inr, obd_some, ↓reduceIte]
    exact r1
  · have i10 : i < 10 := by omega
    obtain ⟨a1, a2, a3⟩ := pp_10 m hm i i10
    obtain ⟨b1, b2, b3, b4⟩ := pp_lt i i10
    have hbi : base (10 * m + i) = lk1 x (10 * m + i) := by
      rw [hbase]
      show (if 10 * m ≤ 10 * m + i ∧ 10 * m + i < 10 * m + prs (aN x) then aK x (10 * m + i) else 999) = lk1 x (10 * m + i)
      unfold lk1
      rw [a2]
      by_cases c : ppK i < aN x
      · have := (pp_n (aN x) hx4 i i10).mpr c
        rw [if_pos (by omega), if_pos c]
      · have : ¬ i < prs (aN x) := fun q => c ((pp_n (aN x) hx4 i i10).mp q)
        rw [if_neg (by omega), if_neg c]
    show Kr1 (10 * m + i) = min (lk1 x (10 * m + i)) (lk2 y w (10 * m + i))
    rw [← hbi]
    unfold lk2
    rw [a1, a2, a3]
    have hno : (∀ k' j', j' ≤ k' → k' < aN y → (k' < aN y ∨ (k' = aN y ∧ j' < 0)) → prn (w j') (w k') ≠ i) → Kr1 (10 * m + i) = min (base (10 * m + i)) 999 := by
      intro q
      rw [r4.2 i i10 q]
      have := hb9 (10 * m + i)
      omega
    have hit : ∀ k' j', j' ≤ k' → k' < aN y → prn (w j') (w k') = i → (w j' = ppJ i ∧ w k' = ppK i) ∨ (w j' = ppK i ∧ w k' = ppJ i) := by
      intro k' j' h1 h2 e
      exact prn_inj (gw4 j' (by omega)) (gw4 k' h2) (by omega) b2 (e.trans b3.symm)
    cases eJ : bk w (aN y) (ppJ i) with
    | none =>
      have nb := bk_none eJ
      refine hno (fun k' j' h1 h2 _ e => ?_)
      rcases hit k' j' h1 h2 e with ⟨q1, q2⟩ | ⟨q1, q2⟩
      · exact nb j' (by omega) q1
      · exact nb k' h2 q2
    | some a' =>
      obtain ⟨ja, jb⟩ := bk_some eJ
      cases eK : bk w (aN y) (ppK i) with
      | none =>
        have nb := bk_none eK
        refine hno (fun k' j' h1 h2 _ e => ?_)
        rcases hit k' j' h1 h2 e with ⟨q1, q2⟩ | ⟨q1, q2⟩
        · exact nb k' h2 q2
        · exact nb j' (by omega) q1
      | some b' =>
        obtain ⟨ka, kb⟩ := bk_some eK
        show Kr1 (10 * m + i) = min (base (10 * m + i)) (aK y (10 * m + prn a' b'))
        by_cases c : a' ≤ b'
        · have := r4.1 b' a' c ka (Or.inl ka)
          rw [jb, kb, b3] at this
          exact this
        · have := r4.1 a' b' (by omega) ja (Or.inl ja)
          rw [jb, kb, b4, prn_comm b' (by omega) a' (by omega)] at this
          exact this
  · rw [r5 i hi, hK1]
    show (if 10 * m ≤ i ∧ i < 10 * m + prs (aN x) then aK x i else Kr i) = Kr i
    rw [if_neg (by omega)]
theorem c_uK (hx4 : aN x ≤ 4) (hy4 : aN y ≤ 4) (hw : ∀ b, b < aN y → w b < n) (hn : n ≤ 4) (winj : ∀ b c, b < aN y → c < aN y → w b = w c → b = c) (hKx : ∀ i, i < prs (aN x) → aK x i ≤ 999 ∧ aK x (10 + i) ≤ 999) (hKy : ∀ i, i < prs (aN y) → aK y i ≤ 999 ∧ aK y (10 + i) ≤ 999)
    (hS : zSt z S) (hx : zCR S (z + 188) x) (hy : zCR S (z + 195) y) (hW : ∀ i, i < aN y → mI S (z + 209) i = nI (w i)) :
    ∃ S' : Mem, F_X1_uniteLikelihoods (z + 187) S = some S' ∧ zFr (z + 202 + 6) (z + 202 + 7) S S' ∧ ∀ i, i < prs n → mI S' (z + 202 + 6) i = nI (aK (jRec x y n L B w) i) ∧ mI S' (z + 202 + 6) (10 + i) = nI (aK (jRec x y n L B w) (10 + i)) := by
  have hvj := v_jj hS
  have pn := prs_le hn
  have e0 := c_fill (x := nI 999) hvj
  have f0 : zFr (z + 202 + 6) (z + 202 + 7) S (sF S (z + 202 + 6) (fun k => if k < 20 then nI 999 else mI S (z + 202 + 6) k)) := zFr_sF (by omega) (by omega)
  obtain ⟨S1, K1, r1, r2, r3, r4, r5⟩ := c_uS (m := 0) (fu := 3999) (n := n) (L := L) (B := B) (by omega) hx4 hy4 hw hn winj hKx hKy (zSt_Fr f0 hS) (zCR_Fr f0 (by omega) hx) (zCR_Fr f0 (by omega) hy) (fun i hi => by rw [f0.2 _ (by omega)]; exact hW i hi) (fun _ => 999) (by
    intro i hi
    rw [mI_sF, if_pos rfl, if_pos hi]) (fun _ _ => rfl)
  have f1 := zFr_trans f0 r2
  obtain ⟨S2, K2, u1, u2, u3, u4, u5⟩ := c_uS (m := 1) (fu := 3998) (n := n) (L := L) (B := B) (by omega) hx4 hy4 hw hn winj hKx hKy (zSt_Fr f1 hS) (zCR_Fr f1 (by omega) hx) (zCR_Fr f1 (by omega) hy) (fun i hi => by rw [f1.2 _ (by omega)]; exact hW i hi) K1 r3 (by
    intro i hi
    exact r5 _ (by omega))
  refine ⟨S2, ?_, zFr_trans f1 u2, fun i hi => ?_⟩
  · have t0 : F_X1_uniteLikelihoods_L12 (3999 + 1) (z + 187) (nI 0) (sF S (z + 202 + 6) (fun k => if k < 20 then nI 999 else mI S (z + 202 + 6) k)) = some S2 := by
      rw [r1]
      show F_X1_uniteLikelihoods_L12 (3998 + 1) (z + 187) (nI 1) S1 = some S2
      rw [u1]
      show F_X1_uniteLikelihoods_L12 (3997 + 1) (z + 187) (nI 2) S2 = some S2
      unfold F_X1_uniteLikelihoods_L12
      rw [if_pos (show (2 : Int32) ≤ nI 2 by decide)]
    simp only [F_X1_uniteLikelihoods, l_0, l_1, l_2, l_3, l_4, l_5, l_6, l_7, l_8, l_9, l_10, l_11, l_12, l_13, l_14, l_15, l_16, l_17, l_18, l_19, l_20, l_21, l_24, l_25, l_26, l_27, l_31, l_33, l_41, l_65, l_67, l_71, l_84, l_120, l_127, l_128, l_130, l_160, l_162, l_200, l_255, l_256, l_999, l_1000, l_8000, l_9999, l_10000, l_8001, l_m1, t_k0, t_g0, t_p0, t_z0, t_k1, t_g1, t_p1, t_z1, t_k3, t_g3, t_p3, t_z3, t_k187, t_g187, t_p187, t_z187, t_k210, t_g210, t_p210, t_z210, t_k212, t_g212, t_p212, t_z212, t_k214, t_g214, t_p214, t_z214, t_r0_0, t_r0_1, t_r0_2, t_r0_4, t_r0_5, t_r0_6, t_r0_7, t_r1_0, t_r3_0, t_r187_0, t_r187_1, t_r187_2, t_r187_3, t_r210_0, t_r212_0, t_r214_1, t_r214_5, t_r214_6, t_r214_8, t_r214_10, t_a2, t_s2, t_a209, t_s209, t_a211, t_s211, t_a213, t_s213, t_a215, t_s215, t_a216, t_s216, t_a217, t_s217, t_a218, t_s218, t_a219, t_s219, t_a4, t_s4, zSt_sI, zSt_sF, zSt_zI, zSt_sJ, zSt_sD, zBo_0, zBo_1, hS, v_pk hvj, e0, bd2_some, bdx_inl, bdx_inr, bdc_inl, bdc_inr, obd_some]
    exact t0
  · refine ⟨?_, ?_⟩
    · rw [u3 i (by omega), u5 i (by omega)]
      have := r4 i hi
      rw [Nat.mul_zero, Nat.zero_add] at this
      rw [this]
    · rw [u3 (10 + i) (by omega)]
      have := u4 i hi
      rw [Nat.mul_one] at this
      rw [this]
end C11
