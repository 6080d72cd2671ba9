set_option maxRecDepth 20000
/-! The class writes a record out. -/
def aWr (r : Rc) : Prop := aN r ≤ 4 ∧ (∀ i, i < aN r → aL r i ≤ 8 ∧ aB r i < 2147483648) ∧ aP r < 65536 ∧ aVl r
section C6
variable {S S' S1 S2 : Mem} {z v w n lo hi o k : Nat} {x l : Int32} {r : Rc} {s : As} {y : Int64} {yd : UInt64} {t : List Nat}
theorem aWr_of {p : Nat} {rf : Nat → Nat} (hp : p ≤ 160) (h : aOk p rf r) : aWr r :=
  ⟨h.1.2, fun i hi => ⟨(h.2.1.1 i hi).2.1, (al31 h.2.1 hi).1⟩, by have := (ok31 hp h).1; omega, h.2.2.2⟩
theorem gI_1 (g : Nat) : gI g + nI 1 = nI g := by
  cases g with
  | zero => decide
  | succ g => exact nI_add g 1
theorem c_putS {m : Nat} (hm : m < 2) (h : zBR S o) (hv : zVar S v) (hd : v + 7 ≤ o ∨ o + 2 ≤ v) (hr : zCR S v r) (hw : aWr r) (ht : zBy S o t) (hl : t.length + 24 ≤ 120) :
    ∃ S', zFr o (o + 2) S S' ∧ zBy S' o (t ++ bSm r m) ∧ ∀ fu, F_X0_putVariant_L78 (fu + 1) o v (nI m) S = F_X0_putVariant_L78 fu o v (nI (m + 1)) S' := by
  obtain ⟨hn4, -, -, hV⟩ := hw
  have hp10 := prs_le hn4
  have hH := hV.2.2.2.1 m hm
  have hG1 := hV.2.2.1 (2 * m) (by omega)
  have hG2 := hV.2.2.1 (2 * m + 1) (by omega)
  obtain ⟨S1, q1, q2, q3⟩ := c_put (b := 33) h ht (by omega)
  have hB1 := zBR_Fr q2 h
  have hv1 := zVar_Fr q2 hv
  have hr1 := zCR_Fr q2 (by omega) hr
  obtain ⟨S2, s1, s2, s3⟩ := c_put (b := 2 * aG r (2 * m) + aH r m) hB1 q3 (by rw [List.length_append]; simp only [List.length_cons, List.length_nil]; omega)
  have hB2 := zBR_Fr s2 hB1
  have hv2 := zVar_Fr s2 hv1
  have hr2 := zCR_Fr s2 (by omega) hr1
  obtain ⟨S3, u1, u2, u3⟩ := c_put (b := 2 * aG r (2 * m + 1) + aH r m) hB2 s3 (by rw [List.length_append, List.length_append]; simp only [List.length_cons, List.length_nil]; omega)
  have hB3 := zBR_Fr u2 hB2
  have hv3 := zVar_Fr u2 hv2
  have hr3 := zCR_Fr u2 (by omega) hr2
  obtain ⟨S4, w1, w2, w3⟩ := c_putR (S := S3) (o := o) (a := v + 6) (f := 10 * m) (n := prs (aN r)) (N := 20) (g := fun i => aK r (10 * m + i)) hv3.2.2.2.2.2.2.2.1 hv3.2.2.2.2.2.2.2.2 (by omega) (by omega) (by omega) (by
    intro i hi
    rcases (show m = 0 ∨ m = 1 by omega) with e | e <;> subst e
    · simp only [Nat.mul_zero, Nat.zero_add]; exact (hr3.2.2.2.2 i hi).1
    · exact (hr3.2.2.2.2 i hi).2) (by
    intro i hi
    have := hV.2.2.2.2 i hi
    rcases (show m = 0 ∨ m = 1 by omega) with e | e <;> subst e
    · show aK r (10 * 0 + i) < 65536
      rw [Nat.mul_zero, Nat.zero_add]; omega
    · show aK r (10 * 1 + i) < 65536
      rw [Nat.mul_one]; omega) hB3 u3 (by rw [List.length_append, List.length_append, List.length_append]; simp only [List.length_cons, List.length_nil]; omega)
  refine ⟨S4, zFr_trans (zFr_trans (zFr_trans q2 s2) u2) w2, ?_, ?_⟩
  · rw [List.append_assoc, List.append_assoc, List.append_assoc] at w3
    exact w3
  · intro fu
    have c1 : ¬ nI 2 ≤ nI m := nI_ge (by omega) (by omega)
    have e5 := v_a5 hv1 hm
    have e6 := hr1.2.2.2.1 m hm
    have i1 : 2 * m < 4 := by omega
    have i2 : 2 * m + 1 < 4 := by omega
    have f1 := v_a4 hv1 i1
    have f2 := v_a4 hv2 i2
    have g1 := hr1.2.2.1 (2 * m) i1
    have g2 := hr2.2.2.1 (2 * m + 1) i2
    have hpr := c_pairs hv3 hr3.1.2.2 hn4
    rcases (show aH r m = 0 ∨ aH r m = 1 by omega) with e | e <;> rw [e] at e6 s1 u1
    · simp only [F_X0_putVariant_L78, F_X0_putVariant_J103, l_0, l_1, l_2, l_3, l_4, l_5, l_6, l_7, l_8, l_9, l_10, l_11, l_12, l_13, l_14, l_15, l_16, l_17, l_18, l_19, l_20, l_21, l_24, l_25, l_26, l_27, l_31, l_33, l_41, l_65, l_67, l_71, l_84, l_120, l_127, l_128, l_130, l_160, l_162, l_200, l_255, l_256, l_999, l_1000, l_8000, l_9999, l_10000, l_8001, l_m1, c1, ↓reduceIte, bd2_some, bdx_inl, bdx_inr, bdc_inl, bdc_inr, obd_some, yr_k h, q1, v_g7 hv1, e5, e6, v_g6 hv1, v_g6 hv2, v_g8 hv3, v_pk hv3, yr_k hB1, yr_k hB2, yr_k hB3, nI_mul, nI_add, f1, f2, g1, g2, gI_1, s1, u1, hpr, w1]
    · simp only [F_X0_putVariant_L78, F_X0_putVariant_J103, l_0, l_1, l_2, l_3, l_4, l_5, l_6, l_7, l_8, l_9, l_10, l_11, l_12, l_13, l_14, l_15, l_16, l_17, l_18, l_19, l_20, l_21, l_24, l_25, l_26, l_27, l_31, l_33, l_41, l_65, l_67, l_71, l_84, l_120, l_127, l_128, l_130, l_160, l_162, l_200, l_255, l_256, l_999, l_1000, l_8000, l_9999, l_10000, l_8001, l_m1, c1, ne10, ↓reduceIte, bd2_some, bdx_inl, bdx_inr, bdc_inl, bdc_inr, obd_some, yr_k h, q1, v_g7 hv1, e5, e6, v_g6 hv1, v_g6 hv2, v_g8 hv3, v_pk hv3, yr_k hB1, yr_k hB2, yr_k hB3, nI_mul, nI_add, f1, f2, g1, g2, gI_1, s1, u1, hpr, w1]
theorem bSm_len (r : Rc) (m : Nat) (hn : aN r ≤ 4) : (bSm r m).length ≤ 24 := by
  unfold bSm
  rw [List.length_append]
  have := bRow_len (fun i => aK r (10 * m + i)) (prs (aN r))
  have := prs_le hn
  simp only [List.length_cons, List.length_nil]
  omega
theorem c_putV_tail (h : zBR S o) (hv : zVar S v) (hd : v + 7 ≤ o ∨ o + 2 ≤ v) (hr : zCR S v r) (hw : aWr r) (ht : zBy S o t) (hl : t.length + 57 ≤ 120) :
    ∃ S', zFr o (o + 2) S S' ∧ zBy S' o (t ++ bRow (aD r) (aN r) ++ bSm r 0 ++ bSm r 1) ∧ ∀ fu j, aN r ≤ j → j < 100 → F_X0_putVariant_L33 (fu + 1) o v (nI j) S = some S' := by
  have hn4 := hw.1
  obtain ⟨S1, q1, q2, q3⟩ := c_putR (S := S) (o := o) (a := v + 3) (f := 0) (n := aN r) (N := 4) (g := aD r) hv.2.2.2.2.1.1 hv.2.2.2.2.1.2 (by omega) (by omega) (by omega) (by
    intro i hi
    rw [Nat.zero_add]
    exact (hr.2.1 i hi).2.2) (by
    intro i hi
    have := hw.2.2.2.2.1 i hi
    omega) h ht (by omega)
  have l1 := bRow_len (aD r) (aN r)
  have l2 := bSm_len r 0 hn4
  have hB1 := zBR_Fr q2 h
  have hv1 := zVar_Fr q2 hv
  have hr1 := zCR_Fr q2 (by omega) hr
  obtain ⟨S2, s2, s3, s4⟩ := c_putS (m := 0) (by omega) hB1 hv1 hd hr1 hw q3 (by rw [List.length_append]; omega)
  obtain ⟨S3, u2, u3, u4⟩ := c_putS (m := 1) (by omega) (zBR_Fr s2 hB1) (zVar_Fr s2 hv1) hd (zCR_Fr s2 (by omega) hr1) hw s3 (by rw [List.length_append, List.length_append]; omega)
  refine ⟨S3, zFr_trans (zFr_trans q2 s2) u2, u3, ?_⟩
  intro fu j hj hj2
  have c1 : nI (aN r) ≤ nI j := nI_le hj (by omega)
  have e1 : F_X0_putVariant_L78 FU o v (nI 0) S1 = some S3 := by
    have t1 : F_X0_putVariant_L78 (3999 + 1) o v (nI 0) S1 = some S3 := by
      rw [s4 3999]
      have t2 : F_X0_putVariant_L78 (3998 + 1) o v (nI (0 + 1)) S2 = some S3 := by
        rw [Nat.zero_add, u4 3998]
        have c2 : nI 2 ≤ nI (1 + 1) := by decide
        have t3 : F_X0_putVariant_L78 (3997 + 1) o v (nI (1 + 1)) S3 = some S3 := by
          simp only [F_X0_putVariant_L78, l_0, l_1, l_2, l_3, l_4, l_5, l_6, l_7, l_8, l_9, l_10, l_11, l_12, l_13, l_14, l_15, l_16, l_17, l_18, l_19, l_20, l_21, l_24, l_25, l_26, l_27, l_31, l_33, l_41, l_65, l_67, l_71, l_84, l_120, l_127, l_128, l_130, l_160, l_162, l_200, l_255, l_256, l_999, l_1000, l_8000, l_9999, l_10000, l_8001, l_m1, c2, ↓reduceIte]
        exact t3
      exact t2
    exact t1
  simp only [F_X0_putVariant_L33, l_0, l_1, l_2, l_3, l_4, l_5, l_6, l_7, l_8, l_9, l_10, l_11, l_12, l_13, l_14, l_15, l_16, l_17, l_18, l_19, l_20, l_21, l_24, l_25, l_26, l_27, l_31, l_33, l_41, l_65, l_67, l_71, l_84, l_120, l_127, l_128, l_130, l_160, l_162, l_200, l_255, l_256, l_999, l_1000, l_8000, l_9999, l_10000, l_8001, l_m1, v_gI hv, hr.1.2.2, c1, ↓reduceIte, bd2_some, bdx_inl, bdx_inr, bdc_inl, bdc_inr, obd_some, v_g5 hv, yr_k h, q1, e1]
theorem c_putV_A (hw : aWr r) (hd : v + 7 ≤ o ∨ o + 2 ≤ v) : ∀ (m fu j : Nat) (S : Mem) (t : List Nat), zBR S o → zVar S v → zCR S v r → zBy S o t → t.length + 9 * m + 57 ≤ 120 → j + m = aN r → m < fu →
    ∃ S', F_X0_putVariant_L33 fu o v (nI j) S = some S' ∧ zFr o (o + 2) S S' ∧ zBy S' o (t ++ (List.range' j m).flatMap (fun i => bAl (aL r i) (aB r i)) ++ bRow (aD r) (aN r) ++ bSm r 0 ++ bSm r 1) := by
  have hn4 := hw.1
  intro m
  induction m with
  | zero =>
    intro fu j S t h hv hr ht hl hj hf
    obtain ⟨fu, rfl⟩ : ∃ f, fu = f + 1 := ⟨fu - 1, by omega⟩
    obtain ⟨S1, q1, q2, q3⟩ := c_putV_tail h hv hd hr hw ht (by omega)
    exact ⟨S1, q3 fu j (by omega) (by omega), q1, by simpa using q2⟩
  | succ m ih =>
    intro fu j S t h hv hr ht hl hj hf
    obtain ⟨fu, rfl⟩ : ∃ f, fu = f + 1 := ⟨fu - 1, by omega⟩
    have c1 : ¬ nI (aN r) ≤ nI j := nI_ge (by omega) (by omega)
    obtain ⟨a1, a2⟩ := hw.2.1 j (by omega)
    obtain ⟨b1, b2, -⟩ := hr.2.1 j (by omega)
    have j4 : j < 4 := by omega
    obtain ⟨S1, q1, q2, q3⟩ := c_putA (b := aB r j) (ln := aL r j) h ht (by omega) a1 a2
    obtain ⟨S2, r1, r2, r3⟩ := ih fu (j + 1) S1 _ (zBR_Fr q2 h) (zVar_Fr q2 hv) (zCR_Fr q2 (by omega) hr) q3 (by rw [List.length_append, bAl_len]; omega) (by omega) (by omega)
    refine ⟨S2, ?_, zFr_trans q2 r2, ?_⟩
    · have e1 := v_a1 hv j4
      have e2 := v_a2 hv j4
      simp only [F_X0_putVariant_L33, l_0, l_1, l_2, l_3, l_4, l_5, l_6, l_7, l_8, l_9, l_10, l_11, l_12, l_13, l_14, l_15, l_16, l_17, l_18, l_19, l_20, l_21, l_24, l_25, l_26, l_27, l_31, l_33, l_41, l_65, l_67, l_71, l_84, l_120, l_127, l_128, l_130, l_160, l_162, l_200, l_255, l_256, l_999, l_1000, l_8000, l_9999, l_10000, l_8001, l_m1, v_gI hv, hr.1.2.2, c1, ↓reduceIte, bd2_some, bdx_inl, bdx_inr, bdc_inl, bdc_inr, obd_some, v_g3 hv, v_g4 hv, e1, e2, b1, b2, yr_k h, q1, nI_add, r1]
    · rw [List.range'_succ, List.flatMap_cons, ← List.append_assoc]
      exact r3
theorem c_putVariant (h : zBR S o) (hv : zVar S v) (hd : v + 7 ≤ o ∨ o + 2 ≤ v) (hr : zCR S v r) (hw : aWr r) : ∃ S', F_X0_putVariant o v S = some S' ∧ zFr o (o + 2) S S' ∧ zBy S' o (bts r) := by
  have hn4 := hw.1
  have f0 : zFr o (o + 2) S (sI S o 1 (nI 0)) := zFr_sI (by omega) (by omega)
  have h0 : zBy (sI S o 1 (nI 0)) o [] := ⟨by rw [mI_sI, if_pos ⟨rfl, rfl⟩]; rfl, fun i b hb => by simp at hb⟩
  have hB0 := zBR_Fr f0 h
  have hv0 := zVar_Fr f0 hv
  have hr0 := zCR_Fr f0 (by omega) hr
  obtain ⟨S1, q1, q2, q3⟩ := c_putN2 (a := aP r) hB0 h0 (by decide) hw.2.2.1
  have hB1 := zBR_Fr q2 hB0
  have hv1 := zVar_Fr q2 hv0
  have hr1 := zCR_Fr q2 (by omega) hr0
  obtain ⟨S2, s1, s2, s3⟩ := c_putN2 (a := aQ r) hB1 q3 (by show 2 + 2 ≤ 120; omega) (by have := hw.2.2.2.1; omega)
  have hB2 := zBR_Fr s2 hB1
  have hv2 := zVar_Fr s2 hv1
  have hr2 := zCR_Fr s2 (by omega) hr1
  obtain ⟨S3, u1, u2, u3⟩ := c_put (b := aN r) hB2 s3 (by show 4 < 120; omega)
  have hB3 := zBR_Fr u2 hB2
  have hv3 := zVar_Fr u2 hv2
  have hr3 := zCR_Fr u2 (by omega) hr2
  obtain ⟨S4, w1, w2, w3⟩ := c_putV_A hw hd (aN r) FU 0 S3 _ hB3 hv3 hr3 u3 (by
    show 5 + 9 * aN r + 57 ≤ 120
    omega) (by omega) (by show aN r < 4000; omega)
  refine ⟨S4, ?_, zFr_trans (zFr_trans (zFr_trans (zFr_trans f0 q2) s2) u2) w2, ?_⟩
  · simp only [F_X0_putVariant, l_0, l_1, l_2, l_3, l_4, l_5, l_6, l_7, l_8, l_9, l_10, l_11, l_12, l_13, l_14, l_15, l_16, l_17, l_18, l_19, l_20, l_21, l_24, l_25, l_26, l_27, l_31, l_33, l_41, l_65, l_67, l_71, l_84, l_120, l_127, l_128, l_130, l_160, l_162, l_200, l_255, l_256, l_999, l_1000, l_8000, l_9999, l_10000, l_8001, l_m1, yr_p h, bd2_some, bdx_inl, bdx_inr, bdc_inl, bdc_inr, obd_some, v_gI hv0, v_gI hv1, v_gI hv2, hr0.1.1, hr1.1.2.1, hr2.1.2.2, yr_k hB0, yr_k hB1, yr_k hB2, q1, s1, u1, w1]
  · unfold bts
    rw [List.range_eq_range']
    exact w3
theorem bts_len (hn : aN r ≤ 4) (hL : ∀ i, i < aN r → aL r i ≤ 8) : (bts r).length < 120 := by
  unfold bts
  rw [List.length_append, List.length_append, List.length_append, List.length_append, List.length_flatMap]
  have l1 := bRow_len (aD r) (aN r)
  have l2 := bSm_len r 0 hn
  have l3 := bSm_len r 1 hn
  have : ∀ m, m ≤ aN r → ((List.range m).map (fun i => (bAl (aL r i) (aB r i)).length)).sum ≤ 9 * m := by
    intro m
    induction m with
    | zero => intro _; simp
    | succ m ih =>
      intro hm
      rw [List.range_succ, List.map_append, List.sum_append]
      have h1 := ih (by omega)
      have h2 := hL m (by omega)
      simp only [List.map_cons, List.map_nil, List.sum_cons, List.sum_nil]
      rw [bAl_len]
      omega
  have := this (aN r) (Nat.le_refl _)
  simp only [List.length_cons, List.length_nil]
  omega
theorem C_written {i j : Int32} (hs : xOk s) (h : zCl z s S) : ∃ S', F_L_written z i j (z + 220) S = some ((o_written s i j).1, S') ∧ zCl z s S' ∧ zCf z S S' ∧ ((o_written s i j).1 = nI 0 → mJ S' (z + 220) 0 = (o_written s i j).2.toInt64) := by
  obtain ⟨hS, ⟨pp, hL⟩, hR, hD, hT⟩ := id h
  have hl24 := hs.2.2.2.2.1
  have hreq := c_req (i := i) hS hL.2.1
  by_cases c : i < nI 0 ∨ nI (xL s).length ≤ i
  · rw [if_pos c] at hreq
    rw [show o_written s i j = (nI 1, nI 0) from if_pos c]
    refine ⟨S, ?_, h, zCf_refl hS, fun e => absurd e ne10⟩
    simp only [F_L_written, F_X5_written, l_0, l_1, l_2, l_3, l_4, l_5, l_6, l_7, l_8, l_9, l_10, l_11, l_12, l_13, l_14, l_15, l_16, l_17, l_18, l_19, l_20, l_21, l_24, l_25, l_26, l_27, l_31, l_33, l_41, l_65, l_67, l_71, l_84, l_120, l_127, l_128, l_130, l_160, l_162, l_200, l_255, l_256, l_999, l_1000, l_8000, l_9999, l_10000, l_8001, l_m1, t_k0, t_g0, t_p0, t_z0, t_k1, t_g1, t_p1, t_z1, t_k3, t_g3, t_p3, t_z3, t_k187, t_g187, t_p187, t_z187, t_k210, t_g210, t_p210, t_z210, t_k212, t_g212, t_p212, t_z212, t_k214, t_g214, t_p214, t_z214, t_r0_0, t_r0_1, t_r0_2, t_r0_4, t_r0_5, t_r0_6, t_r0_7, t_r1_0, t_r3_0, t_r187_0, t_r187_1, t_r187_2, t_r187_3, t_r210_0, t_r212_0, t_r214_1, t_r214_5, t_r214_6, t_r214_8, t_r214_10, t_a2, t_s2, t_a209, t_s209, t_a211, t_s211, t_a213, t_s213, t_a215, t_s215, t_a216, t_s216, t_a217, t_s217, t_a218, t_s218, t_a219, t_s219, t_a4, t_s4, zSt_sI, zSt_sF, zSt_zI, zSt_sJ, zSt_sD, zBo_0, zBo_1, hS, bd2_some, bdx_inl, bdx_inr, bdc_inl, bdc_inr, obd_some, hreq, ↓reduceIte]
  rw [if_neg c] at hreq
  have cs := c
  obtain ⟨i', rfl, -, b3⟩ := in_of' (by omega) (fun e => c (Or.inl e)) (fun e => c (Or.inr e)) (by omega)
  have t1 : tn (nI i') = i' := tn_nI (by omega)
  obtain ⟨g1, g2⟩ := xAt_ok hs b3
  obtain ⟨p1, p2⟩ := hL.1.1 i' (by omega)
  have hi24 : i' < 24 := by omega
  have hv : zVar S (z + 5 + 7 * pp i') := t_vi hS (by omega)
  have hr := hL.2.2 i' _ g1
  obtain ⟨S1, q1, q2, q3⟩ := c_putVariant (o := z + 212) (yr_o hS) hv (by omega) hr (aWr_of hs.1 g2)
  have hS1 := zSt_Fr q2 hS
  have hcl : zCl z s S1 := zCl_typed h hl24 (zFr_mono q2 (by omega) (by omega)) (zTy_of (by rw [q2.2 _ (by omega)]) (q2.2 _ (by omega)) hT)
  have hcf : zCf z S S1 := zCf_Fr hS q2 (by omega)
  have hlen : (bts (xAt s i')).length < 120 := bts_len (aWr_of hs.1 g2).1 (fun i hi => ((aWr_of hs.1 g2).2.1 i hi).1)
  by_cases c2 : j < m1 ∨ nI (bts (xAt s i')).length ≤ j
  · rw [show o_written s (nI i') j = (nI 2, nI 0) from by unfold o_written; rw [if_neg cs, t1, if_pos c2]]
    refine ⟨S1, ?_, hcl, hcf, fun e => absurd e n20⟩
    rcases c2 with c3 | c3
    · simp only [F_L_written, F_X5_written, l_0, l_1, l_2, l_3, l_4, l_5, l_6, l_7, l_8, l_9, l_10, l_11, l_12, l_13, l_14, l_15, l_16, l_17, l_18, l_19, l_20, l_21, l_24, l_25, l_26, l_27, l_31, l_33, l_41, l_65, l_67, l_71, l_84, l_120, l_127, l_128, l_130, l_160, l_162, l_200, l_255, l_256, l_999, l_1000, l_8000, l_9999, l_10000, l_8001, l_m1, t_k0, t_g0, t_p0, t_z0, t_k1, t_g1, t_p1, t_z1, t_k3, t_g3, t_p3, t_z3, t_k187, t_g187, t_p187, t_z187, t_k210, t_g210, t_p210, t_z210, t_k212, t_g212, t_p212, t_z212, t_k214, t_g214, t_p214, t_z214, t_r0_0, t_r0_1, t_r0_2, t_r0_4, t_r0_5, t_r0_6, t_r0_7, t_r1_0, t_r3_0, t_r187_0, t_r187_1, t_r187_2, t_r187_3, t_r210_0, t_r212_0, t_r214_1, t_r214_5, t_r214_6, t_r214_8, t_r214_10, t_a2, t_s2, t_a209, t_s209, t_a211, t_s211, t_a213, t_s213, t_a215, t_s215, t_a216, t_s216, t_a217, t_s217, t_a218, t_s218, t_a219, t_s219, t_a4, t_s4, zSt_sI, zSt_sF, zSt_zI, zSt_sJ, zSt_sD, zBo_0, zBo_1, hS, bd2_some, bdx_inl, bdx_inr, bdc_inl, bdc_inr, obd_some, hreq, hi24, p2, q1, c3, ↓reduceIte, String.reduceEq]
    · have c3' : ¬ j < nI (bts (xAt s i')).length := Int32.not_lt.mpr c3
      have c3'' : ¬ j < m1 := fun q => by
        have := (lt_m1 q).1
        exact c3' (Int32.lt_of_lt_of_le this (nI_le (by omega) (by omega)))
      simp only [F_L_written, F_X5_written, l_0, l_1, l_2, l_3, l_4, l_5, l_6, l_7, l_8, l_9, l_10, l_11, l_12, l_13, l_14, l_15, l_16, l_17, l_18, l_19, l_20, l_21, l_24, l_25, l_26, l_27, l_31, l_33, l_41, l_65, l_67, l_71, l_84, l_120, l_127, l_128, l_130, l_160, l_162, l_200, l_255, l_256, l_999, l_1000, l_8000, l_9999, l_10000, l_8001, l_m1, t_k0, t_g0, t_p0, t_z0, t_k1, t_g1, t_p1, t_z1, t_k3, t_g3, t_p3, t_z3, t_k187, t_g187, t_p187, t_z187, t_k210, t_g210, t_p210, t_z210, t_k212, t_g212, t_p212, t_z212, t_k214, t_g214, t_p214, t_z214, t_r0_0, t_r0_1, t_r0_2, t_r0_4, t_r0_5, t_r0_6, t_r0_7, t_r1_0, t_r3_0, t_r187_0, t_r187_1, t_r187_2, t_r187_3, t_r210_0, t_r212_0, t_r214_1, t_r214_5, t_r214_6, t_r214_8, t_r214_10, t_a2, t_s2, t_a209, t_s209, t_a211, t_s211, t_a213, t_s213, t_a215, t_s215, t_a216, t_s216, t_a217, t_s217, t_a218, t_s218, t_a219, t_s219, t_a4, t_s4, zSt_sI, zSt_sF, zSt_zI, zSt_sJ, zSt_sD, zBo_0, zBo_1, hS, hS1, bd2_some, bdx_inl, bdx_inr, bdc_inl, bdc_inr, obd_some, hreq, hi24, p2, q1, q3.1, c3', c3'', ↓reduceIte, String.reduceEq]
  have c31 : ¬ j < m1 := fun e => c2 (Or.inl e)
  have c32 : j < nI (bts (xAt s i')).length := Int32.not_le.mp (fun e => c2 (Or.inr e))
  by_cases c4 : j = m1
  · rw [show o_written s (nI i') j = (nI 0, nI (bts (xAt s i')).length) from by unfold o_written; rw [if_neg cs, t1, if_neg c2, if_pos c4]]
    refine ⟨sJ S1 (z + 220) 0 (nI (bts (xAt s i')).length).toInt64, ?_, zCl_sJ hcl, zCf_sJ hcf, fun _ => mJ_sJ⟩
    subst c4
    simp only [F_L_written, F_X5_written, l_0, l_1, l_2, l_3, l_4, l_5, l_6, l_7, l_8, l_9, l_10, l_11, l_12, l_13, l_14, l_15, l_16, l_17, l_18, l_19, l_20, l_21, l_24, l_25, l_26, l_27, l_31, l_33, l_41, l_65, l_67, l_71, l_84, l_120, l_127, l_128, l_130, l_160, l_162, l_200, l_255, l_256, l_999, l_1000, l_8000, l_9999, l_10000, l_8001, l_m1, t_k0, t_g0, t_p0, t_z0, t_k1, t_g1, t_p1, t_z1, t_k3, t_g3, t_p3, t_z3, t_k187, t_g187, t_p187, t_z187, t_k210, t_g210, t_p210, t_z210, t_k212, t_g212, t_p212, t_z212, t_k214, t_g214, t_p214, t_z214, t_r0_0, t_r0_1, t_r0_2, t_r0_4, t_r0_5, t_r0_6, t_r0_7, t_r1_0, t_r3_0, t_r187_0, t_r187_1, t_r187_2, t_r187_3, t_r210_0, t_r212_0, t_r214_1, t_r214_5, t_r214_6, t_r214_8, t_r214_10, t_a2, t_s2, t_a209, t_s209, t_a211, t_s211, t_a213, t_s213, t_a215, t_s215, t_a216, t_s216, t_a217, t_s217, t_a218, t_s218, t_a219, t_s219, t_a4, t_s4, zSt_sI, zSt_sF, zSt_zI, zSt_sJ, zSt_sD, zBo_0, zBo_1, hS, hS1, bd2_some, bdx_inl, bdx_inr, bdc_inl, bdc_inr, obd_some, hreq, hi24, p2, q1, q3.1, c31, c32, ↓reduceIte, t_sJ hS1]
  have c5 : ¬ j < nI 0 := by
    rcases m1_iff (x := j) with e | e | e
    · exact absurd e c31
    · exact absurd e c4
    · exact e
  obtain ⟨j', rfl, -, b5⟩ := in_of' (by omega) c5 (Int32.not_le.mpr c32) (by omega)
  have t3 : tn (nI j') = j' := tn_nI (by omega)
  have hj120 : j' < 120 := by omega
  have e7 : mI S1 (z + 213) j' = nI ((bts (xAt s i')).getD j' 0) := q3.2 j' _ (by rw [List.getD_eq_getElem?_getD, List.getElem?_eq_getElem b5]; rfl)
  rw [show o_written s (nI i') (nI j') = (nI 0, nI ((bts (xAt s i')).getD j' 0)) from by unfold o_written; rw [if_neg cs, t1, if_neg c2, if_neg c4, t3]]
  refine ⟨sJ S1 (z + 220) 0 (nI ((bts (xAt s i')).getD j' 0)).toInt64, ?_, zCl_sJ hcl, zCf_sJ hcf, fun _ => mJ_sJ⟩
  simp only [F_L_written, F_X5_written, l_0, l_1, l_2, l_3, l_4, l_5, l_6, l_7, l_8, l_9, l_10, l_11, l_12, l_13, l_14, l_15, l_16, l_17, l_18, l_19, l_20, l_21, l_24, l_25, l_26, l_27, l_31, l_33, l_41, l_65, l_67, l_71, l_84, l_120, l_127, l_128, l_130, l_160, l_162, l_200, l_255, l_256, l_999, l_1000, l_8000, l_9999, l_10000, l_8001, l_m1, t_k0, t_g0, t_p0, t_z0, t_k1, t_g1, t_p1, t_z1, t_k3, t_g3, t_p3, t_z3, t_k187, t_g187, t_p187, t_z187, t_k210, t_g210, t_p210, t_z210, t_k212, t_g212, t_p212, t_z212, t_k214, t_g214, t_p214, t_z214, t_r0_0, t_r0_1, t_r0_2, t_r0_4, t_r0_5, t_r0_6, t_r0_7, t_r1_0, t_r3_0, t_r187_0, t_r187_1, t_r187_2, t_r187_3, t_r210_0, t_r212_0, t_r214_1, t_r214_5, t_r214_6, t_r214_8, t_r214_10, t_a2, t_s2, t_a209, t_s209, t_a211, t_s211, t_a213, t_s213, t_a215, t_s215, t_a216, t_s216, t_a217, t_s217, t_a218, t_s218, t_a219, t_s219, t_a4, t_s4, zSt_sI, zSt_sF, zSt_zI, zSt_sJ, zSt_sD, zBo_0, zBo_1, hS, hS1, bd2_some, bdx_inl, bdx_inr, bdc_inl, bdc_inr, obd_some, hreq, hi24, p2, q1, q3.1, c31, c32, c4, hj120, e7, ↓reduceIte, t_sJ hS1]
end C6
