set_option maxRecDepth 20000
def zFA (z A f n : Nat) (S S' : Mem) : Prop := S' = zI S (mI S') ∧ (∀ b, b ≠ A → b ≠ z + 210 → mI S' b = mI S b) ∧ (∀ k, (k < f ∨ f + n ≤ k) → mI S' A k = mI S A k) ∧ mI S' (z + 210) 1 = mI S (z + 210) 1
section C14
variable {S S' S1 S2 : Mem} {z v n a lo hi o k i A f N : Nat} {r : Rc} {s : As} {t : List Nat}
theorem zFA_rf (hA : z + 180 ≤ A) (hA2 : A < z + 187) (h : zFA z A f n S S1) : zRf2 z S S1 := ⟨⟨h.1, fun b hb => h.2.1 b (by omega) (by omega)⟩, h.2.2.2⟩
theorem zFA_trans (h : zFA z A f n S S1) (h' : zFA z A f n S1 S2) : zFA z A f n S S2 :=
  ⟨by have e := h'.1; rw [h.1, zI_zI] at e; exact e, fun b h1 h2 => (h'.2.1 b h1 h2).trans (h.2.1 b h1 h2), fun k hk => (h'.2.2.1 k hk).trans (h.2.2.1 k hk), h'.2.2.2.trans h.2.2.2⟩
theorem zFA_Tk (hA : A ≠ z + 210) (h : zTk z S S1) : zFA z A f n S S1 := ⟨h.1.1, fun b h1 h2 => h.1.2 b (by omega), fun k hk => by rw [h.1.2 A (by omega)], h.2⟩
theorem zRd_A (hA : z + 180 ≤ A) (hA2 : A < z + 187) {x : Int32} (hr : zRd z t S i) : zRd z t (sI S A k x) i := zRd_Fr (zFr_sI (by omega) (by omega)) hr
theorem p2_lt (hb : ∀ b, b ∈ t → b < 256) (i : Nat) : p2 t i < 65536 := by
  have h1 := pb_lt hb i
  have h2 := pb_lt hb (i + 1)
  unfold p2
  omega
theorem c_tkN_L {most b : Nat} (ht : t.length ≤ 120) (hb : ∀ b, b ∈ t → b < 256) (hA : z + 180 ≤ A) (hA2 : A < z + 187) (hm : most < 2147483648) (hfn : f + n ≤ N) (hN2 : N < 2147483648) : ∀ (m fu j : Nat) (S : Mem), zRd z t S (b + 1 + if pW t b = true then 2 * j else j) → ok S A 7 → mN S A = N → (∀ k, k < j → mI S A (f + k) = nI (pRw t b k)) → (∀ k, k < j → pRw t b k ≤ most) → j + m = n → m < fu →
    ((∀ k, k < n → pRw t b k ≤ most) → ∃ S', F_X0_takeNumbers_L12 fu (z + 210) A (nI f) (nI n) (nI most) (nI (pb t b % 16)) (nI (f + j)) S = some (nI 1, S') ∧ zFA z A f n S S' ∧ zRd z t S' (pNx t b n) ∧ ∀ k, k < n → mI S' A (f + k) = nI (pRw t b k)) ∧
    ((¬ ∀ k, k < n → pRw t b k ≤ most) → ∃ S', F_X0_takeNumbers_L12 fu (z + 210) A (nI f) (nI n) (nI most) (nI (pb t b % 16)) (nI (f + j)) S = some (nI 0, S') ∧ zRf2 z S S') := by
  intro m
  induction m with
  | zero =>
    intro fu j S hr hk hn hv hle hj hf
    obtain ⟨fu, rfl⟩ : ∃ f, fu = f + 1 := ⟨fu - 1, by omega⟩
    have e : j = n := by omega
    subst e
    have c1 : nI (f + j) ≤ nI (f + j) := nI_le (Nat.le_refl _) (by omega)
    refine ⟨fun _ => ⟨S, ?_, ⟨rfl, fun _ _ _ => rfl, fun _ _ => rfl, rfl⟩, hr, hv⟩, fun q => absurd hle q⟩
    simp only [F_X0_takeNumbers_L12, l_0, l_1, l_2, l_3, l_4, l_5, l_6, l_7, l_8, l_9, l_10, l_11, l_12, l_13, l_14, l_15, l_16, l_17, l_18, l_19, l_20, l_21, l_24, l_25, l_26, l_27, l_31, l_33, l_41, l_65, l_67, l_71, l_84, l_120, l_127, l_128, l_130, l_160, l_162, l_200, l_255, l_256, l_999, l_1000, l_8000, l_9999, l_10000, l_8001, l_m1, nI_add, c1, ↓reduceIte]
  | succ m ih =>
    intro fu j S hr hk hn hv hle hj hf
    obtain ⟨fu, rfl⟩ : ∃ f, fu = f + 1 := ⟨fu - 1, by omega⟩
    have c1 : ¬ nI (f + n) ≤ nI (f + j) := nI_ge (by omega) (by omega)
    obtain ⟨S1, a1, a2, a3⟩ := c_takeW (wd := pb t b % 16) ht (by omega) hr
    have ev : (if pb t b % 16 = 2 then p2 t (b + 1 + if pW t b = true then 2 * j else j) else pb t (b + 1 + if pW t b = true then 2 * j else j)) = pRw t b j := by
      unfold pRw pW
      by_cases c : pb t b % 16 = 2
      · simp only [c, decide_true, ↓reduceIte]
      · simp only [c, decide_false, ↓reduceIte, Bool.false_eq_true]
    have ep : (b + 1 + if pW t b = true then 2 * j else j) + (if pb t b % 16 = 2 then 2 else 1) = b + 1 + if pW t b = true then 2 * (j + 1) else j + 1 := by
      unfold pW
      by_cases c : pb t b % 16 = 2
      · simp only [c, decide_true, ↓reduceIte]; omega
      · simp only [c, decide_false, ↓reduceIte, Bool.false_eq_true]; omega
    rw [ev] at a1
    rw [ep] at a3
    have hlt : pRw t b j < 65536 := by
      unfold pRw
      split
      · exact p2_lt hb _
      · exact Nat.lt_of_lt_of_le (pb_lt hb _) (by omega)
    have hk1 : ok S1 A 7 := by rw [a2.1.1]; exact hk
    have hn1 : mN S1 A = N := by rw [zFr_N a2.1]; exact hn
    have hS := hr.1
    have e1 := e_psI (x := nI (pRw t b j)) (k := f + j) hk1 hn1 (by omega) hN2
    have hk2 : ok (sI S1 A (f + j) (nI (pRw t b j))) A 7 := hk1
    have hn2 : mN (sI S1 A (f + j) (nI (pRw t b j))) A = N := hn1
    have e2 := e_paI (k := f + j) hk2 hn2 (by omega) hN2
    have e3 : mI (sI S1 A (f + j) (nI (pRw t b j))) A (f + j) = nI (pRw t b j) := by rw [mI_sI, if_pos ⟨rfl, rfl⟩]
    have hF : zFA z A f n S (sI S1 A (f + j) (nI (pRw t b j))) := by
      refine zFA_trans (zFA_Tk (by omega) a2) ⟨rfl, fun b h1 h2 => by rw [mI_sI_r, if_neg h1], fun k hk => by rw [mI_sI, if_neg (by omega)], by rw [mI_sI, if_neg (by omega)]⟩
    by_cases c2 : pRw t b j ≤ most
    · have c2' : nI (pRw t b j) ≤ nI most := nI_le c2 (by omega)
      have IH := ih fu (j + 1) (sI S1 A (f + j) (nI (pRw t b j))) (zRd_A hA hA2 a3) hk2 hn2 (by
        intro k hkj
        rw [mI_sI]
        by_cases e : k = j
        · subst e; rw [if_pos ⟨rfl, rfl⟩]
        · rw [if_neg (by omega), a2.1.2 A (by omega)]; exact hv k (by omega)) (by
        intro k hkj
        by_cases e : k = j
        · subst e; exact c2
        · exact hle k (by omega)) (by omega) (by omega)
      have st : F_X0_takeNumbers_L12 (fu + 1) (z + 210) A (nI f) (nI n) (nI most) (nI (pb t b % 16)) (nI (f + j)) S = F_X0_takeNumbers_L12 fu (z + 210) A (nI f) (nI n) (nI most) (nI (pb t b % 16)) (nI (f + (j + 1))) (sI S1 A (f + j) (nI (pRw t b j))) := by
        simp only [F_X0_takeNumbers_L12, l_0, l_1, l_2, l_3, l_4, l_5, l_6, l_7, l_8, l_9, l_10, l_11, l_12, l_13, l_14, l_15, l_16, l_17, l_18, l_19, l_20, l_21, l_24, l_25, l_26, l_27, l_31, l_33, l_41, l_65, l_67, l_71, l_84, l_120, l_127, l_128, l_130, l_160, l_162, l_200, l_255, l_256, l_999, l_1000, l_8000, l_9999, l_10000, l_8001, l_m1, t_k210 hS, nI_add, c1, a1, e1, e2, e3, c2', bd2_some, bdx_inl, bdx_inr, bdc_inl, bdc_inr, obd_some, ↓reduceIte, Nat.add_assoc]
      rw [st]
      refine ⟨fun q => ?_, fun q => ?_⟩
      · obtain ⟨S2, q1, q2, q3⟩ := IH.1 q
        exact ⟨S2, q1, zFA_trans hF q2, q3⟩
      · obtain ⟨S2, q1, q2⟩ := IH.2 q
        exact ⟨S2, q1, zRf2_trans (zFA_rf hA hA2 hF) q2⟩
    · have c2' : ¬ nI (pRw t b j) ≤ nI most := nI_ge (by omega) (by omega)
      refine ⟨fun q => absurd (q j (by omega)) c2, fun _ => ⟨sI S1 A (f + j) (nI (pRw t b j)), ?_, zFA_rf hA hA2 hF⟩⟩
      simp only [F_X0_takeNumbers_L12, l_0, l_1, l_2, l_3, l_4, l_5, l_6, l_7, l_8, l_9, l_10, l_11, l_12, l_13, l_14, l_15, l_16, l_17, l_18, l_19, l_20, l_21, l_24, l_25, l_26, l_27, l_31, l_33, l_41, l_65, l_67, l_71, l_84, l_120, l_127, l_128, l_130, l_160, l_162, l_200, l_255, l_256, l_999, l_1000, l_8000, l_9999, l_10000, l_8001, l_m1, t_k210 hS, nI_add, c1, a1, e1, e2, e3, c2', bd2_some, bdx_inl, bdx_inr, bdc_inl, bdc_inr, obd_some, ↓reduceIte]
theorem c_tkN {most : Nat} (ht : t.length ≤ 120) (hb : ∀ b, b ∈ t → b < 256) (hA : z + 180 ≤ A) (hA2 : A < z + 187) (hm : most < 2147483648) (hfn : f + n ≤ N) (hN2 : N < 4000) (hr : zRd z t S i) (hk : ok S A 7) (hn : mN S A = N) :
    ((∀ k, k < n → pRw t i k ≤ most) → ∃ S', F_X0_takeNumbers (z + 210) A (nI f) (nI n) (nI most) S = some (nI 1, S') ∧ zFA z A f n S S' ∧ zRd z t S' (pNx t i n) ∧ ∀ k, k < n → mI S' A (f + k) = nI (pRw t i k)) ∧
    ((¬ ∀ k, k < n → pRw t i k ≤ most) → ∃ S', F_X0_takeNumbers (z + 210) A (nI f) (nI n) (nI most) S = some (nI 0, S') ∧ zRf2 z S S') := by
  obtain ⟨S1, a1, a2, a3⟩ := c_take ht hr
  have hS := hr.1
  have hk1 : ok S1 A 7 := by rw [a2.1.1]; exact hk
  have hn1 : mN S1 A = N := by rw [zFr_N a2.1]; exact hn
  have st : F_X0_takeNumbers (z + 210) A (nI f) (nI n) (nI most) S = F_X0_takeNumbers_L12 FU (z + 210) A (nI f) (nI n) (nI most) (nI (pb t i % 16)) (nI f) S1 := by
    simp only [F_X0_takeNumbers, l_0, l_1, l_2, l_3, l_4, l_5, l_6, l_7, l_8, l_9, l_10, l_11, l_12, l_13, l_14, l_15, l_16, l_17, l_18, l_19, l_20, l_21, l_24, l_25, l_26, l_27, l_31, l_33, l_41, l_65, l_67, l_71, l_84, l_120, l_127, l_128, l_130, l_160, l_162, l_200, l_255, l_256, l_999, l_1000, l_8000, l_9999, l_10000, l_8001, l_m1, t_k210 hS, a1, b_and15, bd2_some, bdx_inl, bdx_inr, bdc_inl, bdc_inr, obd_some]
  have M := c_tkN_L (b := i) (most := most) ht hb hA hA2 hm hfn (by omega) n FU 0 S1 (by
    rw [show (i + 1 + if pW t i = true then 2 * 0 else 0) = i + 1 by split <;> omega]
    exact a3) hk1 hn1 (fun k hk => by omega) (fun k hk => by omega) (by omega) (by show n < 4000; omega)
  rw [st]
  rw [Nat.add_zero] at M
  refine ⟨fun q => ?_, fun q => ?_⟩
  · obtain ⟨S2, q1, q2, q3⟩ := M.1 q
    exact ⟨S2, q1, zFA_trans (zFA_Tk (by omega) a2) q2, q3⟩
  · obtain ⟨S2, q1, q2⟩ := M.2 q
    exact ⟨S2, q1, zRf2_trans (zTk_rf a2) q2⟩
theorem gI_of (g : Nat) : nI g - nI 1 = gI g := by
  cases g with
  | zero => decide
  | succ g => exact nI_sub1 (by omega)
theorem gI_al {g n : Nat} (hg : g < 2147483648) (hn : n < 2147483648) : (if gI g = m1 then nI 1 else if gI g < nI 0 ∨ nI n ≤ gI g then nI 0 else nI 1) = if g ≤ n then nI 1 else nI 0 := by
  cases g with
  | zero => rw [if_pos (show gI 0 = m1 from rfl), if_pos (by omega)]
  | succ g =>
    have e : gI (g + 1) = nI g := rfl
    rw [e, if_neg (m1_ne (by omega))]
    by_cases c : g + 1 ≤ n
    · rw [if_pos c, if_neg (by
        rintro (q | q)
        · exact nI_nlt (a := g) (b := 0) (by omega) (by omega) q
        · exact nI_ge (a := g) (b := n) (by omega) (by omega) q)]
    · rw [if_neg c, if_pos (Or.inr (nI_le (by omega) (by omega)))]
theorem c_tkG {m : Nat} (ht : t.length ≤ 120) (hb : ∀ b, b ∈ t → b < 256) (hm : m < 2) (hr : zRd z t S i) (gn : mI S (z + 180) 2 = nI n) (hn : n ≤ 4) : ∃ S', F_X0_takeGenotype (z + 210) (z + 180) (nI m) S = some (if pb t (i + 1) / 2 ≤ n ∧ pb t (i + 2) / 2 ≤ n then nI 1 else nI 0, S') ∧ zRf2 z S S' ∧ zRd z t S' (i + 3) ∧ (∀ b, b ≠ z + 180 + 4 → b ≠ z + 180 + 5 → b ≠ z + 210 → mI S' b = mI S b) ∧ mI S' (z + 180 + 4) (2 * m) = gI (pb t (i + 1) / 2) ∧ mI S' (z + 180 + 4) (2 * m + 1) = gI (pb t (i + 2) / 2) ∧ mI S' (z + 180 + 5) m = nI (pb t (i + 1) % 2) ∧ (∀ k, k ≠ 2 * m → k ≠ 2 * m + 1 → mI S' (z + 180 + 4) k = mI S (z + 180 + 4) k) ∧ ∀ k, k ≠ m → mI S' (z + 180 + 5) k = mI S (z + 180 + 5) k := by
  obtain ⟨S1, a1, a2, a3⟩ := c_take ht hr
  obtain ⟨S2, b1, b2, b3⟩ := c_take ht a3
  obtain ⟨S3, d1, d2, d3⟩ := c_take ht b3
  have hS := hr.1
  have hS1 := a3.1
  have hS2 := b3.1
  have hS3 := d3.1
  have hv3 := v_sc hS3
  have x1 := pb_lt hb (i + 1)
  have x2 := pb_lt hb (i + 1 + 1)
  have i1 : 2 * m < 4 := by omega
  have i2 : 2 * m + 1 < 4 := by omega
  have e1 : nI (pb t (i + 1)) >>> (nI 1 &&& nI 31) - nI 1 = gI (pb t (i + 1) / 2) := by
    rw [b_31 (by omega), b_shr (by omega) (by omega)]; exact gI_of _
  have e2 : nI (pb t (i + 1 + 1)) >>> (nI 1 &&& nI 31) - nI 1 = gI (pb t (i + 2) / 2) := by
    rw [b_31 (by omega), b_shr (by omega) (by omega)]; exact gI_of _
  obtain ⟨S4, g4⟩ : ∃ T, T = sI (sI (sI S3 (z + 180 + 4) (2 * m) (gI (pb t (i + 1) / 2))) (z + 180 + 4) (2 * m + 1) (gI (pb t (i + 2) / 2))) (z + 180 + 5) m (nI (pb t (i + 1) % 2)) := ⟨_, rfl⟩
  have hF : zFr (z + 180) (z + 187) S3 S4 := by rw [g4]; exact zFr_trans (zFr_trans (zFr_sI (by omega) (by omega)) (zFr_sI (by omega) (by omega))) (zFr_sI (by omega) (by omega))
  have hv4 := zVar_Fr hF hv3
  have hk : zTk z S S3 := zTk_trans a2 (zTk_trans b2 d2)
  have gn4 : mI S4 (z + 180) 2 = nI n := by
    rw [g4, mI_sI, if_neg (by omega), mI_sI, if_neg (by omega), mI_sI, if_neg (by omega), hk.1.2 _ (by omega)]
    exact gn
  have al : ∀ g, g < 256 → F_X4_allowsInGenotype (z + 180) (gI g) S4 = some (if g ≤ n then nI 1 else nI 0, S4) := by
    intro g hg
    rw [c_allows hv4, gn4, gI_al (by omega) (by omega)]
  have l1 := al (pb t (i + 1) / 2) (by omega)
  have l2 := al (pb t (i + 2) / 2) (by have := pb_lt hb (i + 2); omega)
  have f1 := v_s4 (x := gI (pb t (i + 1) / 2)) hv3 i1
  have hv3' : zVar (sI S3 (z + 180 + 4) (2 * m) (gI (pb t (i + 1) / 2))) (z + 180) := hv3
  have f2 := v_s4 (x := gI (pb t (i + 2) / 2)) hv3' i2
  have hv3'' : zVar (sI (sI S3 (z + 180 + 4) (2 * m) (gI (pb t (i + 1) / 2))) (z + 180 + 4) (2 * m + 1) (gI (pb t (i + 2) / 2))) (z + 180) := hv3
  have f3 := v_s5 (x := nI (pb t (i + 1) % 2)) hv3'' hm (zBo_of (by omega))
  rw [← g4] at f3
  refine ⟨S4, ?_, zRf2_trans (zTk_rf hk) (zRf2_Fr hF), zRd_Fr hF d3, ?_, ?_, ?_, ?_, ?_, ?_⟩
  · have core : F_X0_takeGenotype_J62 (z + 180) (nI (pb t (i + 1))) (nI (pb t (i + 1 + 1))) (z + 180 + 5) (nI m) (nI (pb t (i + 1) % 2)) (sI (sI S3 (z + 180 + 4) (2 * m) (gI (pb t (i + 1) / 2))) (z + 180 + 4) (2 * m + 1) (gI (pb t (i + 2) / 2))) = some (if pb t (i + 1) / 2 ≤ n ∧ pb t (i + 2) / 2 ≤ n then nI 1 else nI 0, S4) := by
      by_cases c1 : pb t (i + 1) / 2 ≤ n
      · rw [if_pos c1] at l1
        by_cases c2 : pb t (i + 2) / 2 ≤ n
        · rw [if_pos c2] at l2
          simp only [F_X0_takeGenotype_J62, l_0, l_1, l_2, l_3, l_4, l_5, l_6, l_7, l_8, l_9, l_10, l_11, l_12, l_13, l_14, l_15, l_16, l_17, l_18, l_19, l_20, l_21, l_24, l_25, l_26, l_27, l_31, l_33, l_41, l_65, l_67, l_71, l_84, l_120, l_127, l_128, l_130, l_160, l_162, l_200, l_255, l_256, l_999, l_1000, l_8000, l_9999, l_10000, l_8001, l_m1, f3, v_pk hv4, e1, e2, l1, l2, ne10, c1, c2, and_self, bd2_some, bdx_inl, bdx_inr, bdc_inl, bdc_inr, obd_some, ↓reduceIte]
        · rw [if_neg c2] at l2
          simp only [F_X0_takeGenotype_J62, l_0, l_1, l_2, l_3, l_4, l_5, l_6, l_7, l_8, l_9, l_10, l_11, l_12, l_13, l_14, l_15, l_16, l_17, l_18, l_19, l_20, l_21, l_24, l_25, l_26, l_27, l_31, l_33, l_41, l_65, l_67, l_71, l_84, l_120, l_127, l_128, l_130, l_160, l_162, l_200, l_255, l_256, l_999, l_1000, l_8000, l_9999, l_10000, l_8001, l_m1, f3, v_pk hv4, e1, e2, l1, l2, ne10, c1, c2, and_false, bd2_some, bdx_inl, bdx_inr, bdc_inl, bdc_inr, obd_some, ↓reduceIte]
      · rw [if_neg c1] at l1
        simp only [F_X0_takeGenotype_J62, l_0, l_1, l_2, l_3, l_4, l_5, l_6, l_7, l_8, l_9, l_10, l_11, l_12, l_13, l_14, l_15, l_16, l_17, l_18, l_19, l_20, l_21, l_24, l_25, l_26, l_27, l_31, l_33, l_41, l_65, l_67, l_71, l_84, l_120, l_127, l_128, l_130, l_160, l_162, l_200, l_255, l_256, l_999, l_1000, l_8000, l_9999, l_10000, l_8001, l_m1, f3, v_pk hv4, e1, e2, l1, c1, false_and, bd2_some, bdx_inl, bdx_inr, bdc_inl, bdc_inr, obd_some, ↓reduceIte]
    rcases (show pb t (i + 1) % 2 = 0 ∨ pb t (i + 1) % 2 = 1 by omega) with e | e
    · rw [e] at core
      have ne : ¬ nI 0 = nI 1 := by decide
      simp only [F_X0_takeGenotype, l_0, l_1, l_2, l_3, l_4, l_5, l_6, l_7, l_8, l_9, l_10, l_11, l_12, l_13, l_14, l_15, l_16, l_17, l_18, l_19, l_20, l_21, l_24, l_25, l_26, l_27, l_31, l_33, l_41, l_65, l_67, l_71, l_84, l_120, l_127, l_128, l_130, l_160, l_162, l_200, l_255, l_256, l_999, l_1000, l_8000, l_9999, l_10000, l_8001, l_m1, t_k210 hS, t_k210 hS1, t_k210 hS2, a1, b1, d1, v_g6 hv3, v_g6 hv3', v_g7 hv3'', nI_mul, nI_add, e1, e2, f1, f2, b_and1, e, ne, bd2_some, bdx_inl, bdx_inr, bdc_inl, bdc_inr, obd_some, ↓reduceIte]
      exact core
    · rw [e] at core
      simp only [F_X0_takeGenotype, l_0, l_1, l_2, l_3, l_4, l_5, l_6, l_7, l_8, l_9, l_10, l_11, l_12, l_13, l_14, l_15, l_16, l_17, l_18, l_19, l_20, l_21, l_24, l_25, l_26, l_27, l_31, l_33, l_41, l_65, l_67, l_71, l_84, l_120, l_127, l_128, l_130, l_160, l_162, l_200, l_255, l_256, l_999, l_1000, l_8000, l_9999, l_10000, l_8001, l_m1, t_k210 hS, t_k210 hS1, t_k210 hS2, a1, b1, d1, v_g6 hv3, v_g6 hv3', v_g7 hv3'', nI_mul, nI_add, e1, e2, f1, f2, b_and1, e, bd2_some, bdx_inl, bdx_inr, bdc_inl, bdc_inr, obd_some, ↓reduceIte]
      exact core
  · intro b h1 h2 h3
    rw [g4, mI_sI_r, if_neg h2, mI_sI_r, if_neg h1, mI_sI_r, if_neg h1, hk.1.2 b (by omega)]
  · rw [g4, mI_sI, if_neg (by omega), mI_sI, if_neg (by omega), mI_sI, if_pos ⟨rfl, rfl⟩]
  · rw [g4, mI_sI, if_neg (by omega), mI_sI, if_pos ⟨rfl, rfl⟩]
  · rw [g4, mI_sI, if_pos ⟨rfl, rfl⟩]
  · intro k k1 k2
    rw [g4, mI_sI, if_neg (by omega), mI_sI, if_neg (by omega), mI_sI, if_neg (by omega), hk.1.2 _ (by omega)]
  · intro k k1
    rw [g4, mI_sI, if_neg (by omega), mI_sI, if_neg (by omega), mI_sI, if_neg (by omega), hk.1.2 _ (by omega)]
end C14
