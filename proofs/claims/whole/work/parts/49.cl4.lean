set_option maxRecDepth 20000
/-! The class's calls: add, remove, asking. -/
section C4
variable {S S' S1 S2 : Mem} {z v w n lo hi : Nat} {x l : Int32} {r : Rc} {s : As} {y : Int64} {yd : UInt64}
theorem zCl_list {ls : List Rc} (h : zCl z s S) (hS' : zSt z S') (hL : ∃ p, zLv z S' p ls) (hI : ∀ a, (a ≤ z + 2 ∨ (z + 173 ≤ a ∧ a < z + 180) ∨ a = z + 210 ∨ a = z + 211) → mI S' a = mI S a) : zCl z (wList s ls) S' := by
  obtain ⟨hS, -, hRf, hD, hT⟩ := h
  refine ⟨hS', hL, zRf_of (hI _ (by omega)) (hI _ (by omega)) hRf, zDf_of ?_ ?_ hD, zTy_of ?_ ?_ hT⟩
  · rw [hI _ (by omega)]
  · intro a h1 h2; exact hI a (by omega)
  · rw [hI _ (by omega)]
  · rw [hI _ (by omega)]
theorem ok31 {p : Nat} {rf : Nat → Nat} (hp : p ≤ 160) (h : aOk p rf r) : aP r ≤ 160 ∧ aP r < 2147483648 ∧ aN r ≤ 4 ∧ ∀ i, i < 2 → aH r i ≤ 1 := by
  have h1 := h.2.2.1.2.1
  have h2 := (h.2.1.1 0 (by have := h.1.1; omega)).1
  exact ⟨by omega, by omega, h.1.2, h.2.2.2.2.2.2.1⟩
theorem C_add (hs : xOk s) (h : zCl z s S) : ∃ S', F_L_add z (z + 220) S = some ((o_add s).1, S') ∧ zCl z (o_add s).2.2 S' ∧ zCf z S S' ∧ ((o_add s).1 = nI 0 → mJ S' (z + 220) 0 = (o_add s).2.1.toInt64) := by
  obtain ⟨hS, ⟨pp, hL⟩, hR, hD, hT⟩ := id h
  have hl24 := hs.2.2.2.2.1
  have hz := hL.2.1
  by_cases c3 : xD s = false
  · have hd' := hd_f hD c3
    rw [show o_add s = (nI 1, nI 0, s) from if_pos (Or.inl c3)]
    refine ⟨S, ?_, h, zCf_refl hS, fun e => absurd e ne10⟩
    simp only [F_L_add, F_X5_add, l_0, l_1, l_2, l_3, l_4, l_5, l_6, l_7, l_8, l_9, l_10, l_11, l_12, l_13, l_14, l_15, l_16, l_17, l_18, l_19, l_20, l_21, l_24, l_25, l_26, l_27, l_31, l_33, l_41, l_65, l_67, l_71, l_84, l_120, l_127, l_128, l_130, l_160, l_162, l_200, l_255, l_256, l_999, l_1000, l_8000, l_9999, l_10000, l_8001, l_m1, t_k0, t_g0, t_p0, t_z0, t_k1, t_g1, t_p1, t_z1, t_k3, t_g3, t_p3, t_z3, t_k187, t_g187, t_p187, t_z187, t_k210, t_g210, t_p210, t_z210, t_k212, t_g212, t_p212, t_z212, t_k214, t_g214, t_p214, t_z214, t_r0_0, t_r0_1, t_r0_2, t_r0_4, t_r0_5, t_r0_6, t_r0_7, t_r1_0, t_r3_0, t_r187_0, t_r187_1, t_r187_2, t_r187_3, t_r210_0, t_r212_0, t_r214_1, t_r214_5, t_r214_6, t_r214_8, t_r214_10, t_a2, t_s2, t_a209, t_s209, t_a211, t_s211, t_a213, t_s213, t_a215, t_s215, t_a216, t_s216, t_a217, t_s217, t_a218, t_s218, t_a219, t_s219, t_a4, t_s4, zSt_sI, zSt_sF, zSt_zI, zSt_sJ, zSt_sD, zBo_0, zBo_1, hS, bd2_some, bdx_inl, bdx_inr, bdc_inl, bdc_inr, obd_some, hd', ↓reduceIte]
  rw [Bool.not_eq_false] at c3
  have hd' := hd_t hD c3
  obtain ⟨hr, hk⟩ := hD.2 c3
  have hok := hs.2.2.1 c3
  have hv := v_d hS
  have gn := hr.1.2.2
  have hn4 := hok.1.2
  by_cases c1 : aN (xR s) < 2
  · have c1' : ¬ nI 2 ≤ nI (aN (xR s)) := nI_ge (by omega) (by omega)
    rw [show o_add s = (nI 1, nI 0, s) from if_pos (Or.inr (Or.inl c1))]
    refine ⟨S, ?_, h, zCf_refl hS, fun e => absurd e ne10⟩
    simp only [F_L_add, F_X5_add, l_0, l_1, l_2, l_3, l_4, l_5, l_6, l_7, l_8, l_9, l_10, l_11, l_12, l_13, l_14, l_15, l_16, l_17, l_18, l_19, l_20, l_21, l_24, l_25, l_26, l_27, l_31, l_33, l_41, l_65, l_67, l_71, l_84, l_120, l_127, l_128, l_130, l_160, l_162, l_200, l_255, l_256, l_999, l_1000, l_8000, l_9999, l_10000, l_8001, l_m1, t_k0, t_g0, t_p0, t_z0, t_k1, t_g1, t_p1, t_z1, t_k3, t_g3, t_p3, t_z3, t_k187, t_g187, t_p187, t_z187, t_k210, t_g210, t_p210, t_z210, t_k212, t_g212, t_p212, t_z212, t_k214, t_g214, t_p214, t_z214, t_r0_0, t_r0_1, t_r0_2, t_r0_4, t_r0_5, t_r0_6, t_r0_7, t_r1_0, t_r3_0, t_r187_0, t_r187_1, t_r187_2, t_r187_3, t_r210_0, t_r212_0, t_r214_1, t_r214_5, t_r214_6, t_r214_8, t_r214_10, t_a2, t_s2, t_a209, t_s209, t_a211, t_s211, t_a213, t_s213, t_a215, t_s215, t_a216, t_s216, t_a217, t_s217, t_a218, t_s218, t_a219, t_s219, t_a4, t_s4, zSt_sI, zSt_sF, zSt_zI, zSt_sJ, zSt_sD, zBo_0, zBo_1, hS, bd2_some, bdx_inl, bdx_inr, bdc_inl, bdc_inr, obd_some, hd', ne10, ↓reduceIte, v_gI hv, gn, c1']
  have c1' : nI 2 ≤ nI (aN (xR s)) := nI_le (by omega) (by omega)
  by_cases c2 : (xL s).length = 24
  · have c2' : ¬ nI (xL s).length < nI 24 := nI_nlt (by omega) (by omega)
    rw [show o_add s = (nI 1, nI 0, s) from if_pos (Or.inr (Or.inr c2))]
    refine ⟨S, ?_, h, zCf_refl hS, fun e => absurd e ne10⟩
    simp only [F_L_add, F_X5_add, F_X2_isFull, l_0, l_1, l_2, l_3, l_4, l_5, l_6, l_7, l_8, l_9, l_10, l_11, l_12, l_13, l_14, l_15, l_16, l_17, l_18, l_19, l_20, l_21, l_24, l_25, l_26, l_27, l_31, l_33, l_41, l_65, l_67, l_71, l_84, l_120, l_127, l_128, l_130, l_160, l_162, l_200, l_255, l_256, l_999, l_1000, l_8000, l_9999, l_10000, l_8001, l_m1, t_k0, t_g0, t_p0, t_z0, t_k1, t_g1, t_p1, t_z1, t_k3, t_g3, t_p3, t_z3, t_k187, t_g187, t_p187, t_z187, t_k210, t_g210, t_p210, t_z210, t_k212, t_g212, t_p212, t_z212, t_k214, t_g214, t_p214, t_z214, t_r0_0, t_r0_1, t_r0_2, t_r0_4, t_r0_5, t_r0_6, t_r0_7, t_r1_0, t_r3_0, t_r187_0, t_r187_1, t_r187_2, t_r187_3, t_r210_0, t_r212_0, t_r214_1, t_r214_5, t_r214_6, t_r214_8, t_r214_10, t_a2, t_s2, t_a209, t_s209, t_a211, t_s211, t_a213, t_s213, t_a215, t_s215, t_a216, t_s216, t_a217, t_s217, t_a218, t_s218, t_a219, t_s219, t_a4, t_s4, zSt_sI, zSt_sF, zSt_zI, zSt_sJ, zSt_sD, zBo_0, zBo_1, hS, bd2_some, bdx_inl, bdx_inr, bdc_inl, bdc_inr, obd_some, hd', ne10, ↓reduceIte, v_gI hv, gn, c1', hz, c2']
  have c2' : nI (xL s).length < nI 24 := nI_lt (by omega) (by omega)
  have hq := hs.1
  have hP : aP (xR s) < 2147483648 := by
    have h1 := hok.2.2.1.2.1
    omega
  have hS1 : zSt z (sI S z 3 (nI 0)) := hS
  have hL1 : zLv z (sI S z 3 (nI 0)) pp (xL s) := zLv_of (S := S) rfl (fun a h1 h2 => by rw [mI_sI_r, if_neg (by omega)]) hl24 hL
  obtain ⟨S2, p2, q1, q2, q3⟩ := c_insert (w := z + 173) (r := xR s) hS1 hL1 (by omega) (fun T hT => v_d hT) (by omega) (zCR_of (S := S) (v := z + 173) (fun t ht => by rw [mI_sI_r, if_neg (by omega)]) hr) hn4 (hok.2.2.2.1.2.2.2.1) hP (fun t ht => (ok31 hq (hs.2.2.2.1 t ht)).2.1)
  have hS2 := q2.1
  rw [show o_add s = (nI 0, nI (ipos (xL s) (aP (xR s))), wList (wDraft s false (xR s)) (insR (xL s) (xR s))) from if_neg (by
    rw [c3]
    rintro (e | e | e)
    · cases e
    · exact c1 e
    · exact c2 e)]
  refine ⟨sJ S2 (z + 220) 0 (nI (ipos (xL s) (aP (xR s)))).toInt64, ?_, zCl_sJ ?_, zCf_sJ ⟨hS2, fun a ha => ?_⟩, fun _ => mJ_sJ⟩
  · simp only [F_L_add, F_X5_add, F_X2_isFull, l_0, l_1, l_2, l_3, l_4, l_5, l_6, l_7, l_8, l_9, l_10, l_11, l_12, l_13, l_14, l_15, l_16, l_17, l_18, l_19, l_20, l_21, l_24, l_25, l_26, l_27, l_31, l_33, l_41, l_65, l_67, l_71, l_84, l_120, l_127, l_128, l_130, l_160, l_162, l_200, l_255, l_256, l_999, l_1000, l_8000, l_9999, l_10000, l_8001, l_m1, t_k0, t_g0, t_p0, t_z0, t_k1, t_g1, t_p1, t_z1, t_k3, t_g3, t_p3, t_z3, t_k187, t_g187, t_p187, t_z187, t_k210, t_g210, t_p210, t_z210, t_k212, t_g212, t_p212, t_z212, t_k214, t_g214, t_p214, t_z214, t_r0_0, t_r0_1, t_r0_2, t_r0_4, t_r0_5, t_r0_6, t_r0_7, t_r1_0, t_r3_0, t_r187_0, t_r187_1, t_r187_2, t_r187_3, t_r210_0, t_r212_0, t_r214_1, t_r214_5, t_r214_6, t_r214_8, t_r214_10, t_a2, t_s2, t_a209, t_s209, t_a211, t_s211, t_a213, t_s213, t_a215, t_s215, t_a216, t_s216, t_a217, t_s217, t_a218, t_s218, t_a219, t_s219, t_a4, t_s4, zSt_sI, zSt_sF, zSt_zI, zSt_sJ, zSt_sD, zBo_0, zBo_1, hS, bd2_some, bdx_inl, bdx_inr, bdc_inl, bdc_inr, obd_some, hd', ne10, ↓reduceIte, v_gI hv, gn, c1', hz, c2', q1, t_sJ hS2]
  · refine zCl_list (s := wDraft s false (xR s)) (S := sI S z 3 (nI 0)) (zCl_draft hs h hS1 rfl (fun a h1 h2 h3 => by rw [mI_sI_r, if_neg (by omega)]) ⟨?_, fun e => by cases e⟩) hS2 ⟨p2, q3⟩ (fun a ha => q2.2.1 a (by omega))
    rw [mI_sI, if_pos ⟨rfl, rfl⟩]; rfl
  · rw [q2.2.1 a (by omega), mI_sI_r, if_neg (by omega)]
/-- a record's number is in the list, or the class throws -/
theorem c_req {i : Int32} (hS : zSt z S) (hz : mI S (z + 3) 1 = nI n) : F_X5_requireRecord z i S = some (if i < nI 0 ∨ nI n ≤ i then .inr "java/lang/IllegalArgumentException" else .inl (), S) := by
  by_cases c1 : i < nI 0
  · simp only [F_X5_requireRecord, l_0, l_1, l_2, l_3, l_4, l_5, l_6, l_7, l_8, l_9, l_10, l_11, l_12, l_13, l_14, l_15, l_16, l_17, l_18, l_19, l_20, l_21, l_24, l_25, l_26, l_27, l_31, l_33, l_41, l_65, l_67, l_71, l_84, l_120, l_127, l_128, l_130, l_160, l_162, l_200, l_255, l_256, l_999, l_1000, l_8000, l_9999, l_10000, l_8001, l_m1, t_k0, t_g0, t_p0, t_z0, t_k1, t_g1, t_p1, t_z1, t_k3, t_g3, t_p3, t_z3, t_k187, t_g187, t_p187, t_z187, t_k210, t_g210, t_p210, t_z210, t_k212, t_g212, t_p212, t_z212, t_k214, t_g214, t_p214, t_z214, t_r0_0, t_r0_1, t_r0_2, t_r0_4, t_r0_5, t_r0_6, t_r0_7, t_r1_0, t_r3_0, t_r187_0, t_r187_1, t_r187_2, t_r187_3, t_r210_0, t_r212_0, t_r214_1, t_r214_5, t_r214_6, t_r214_8, t_r214_10, t_a2, t_s2, t_a209, t_s209, t_a211, t_s211, t_a213, t_s213, t_a215, t_s215, t_a216, t_s216, t_a217, t_s217, t_a218, t_s218, t_a219, t_s219, t_a4, t_s4, zSt_sI, zSt_sF, zSt_zI, zSt_sJ, zSt_sD, zBo_0, zBo_1, hS, bd2_some, bdx_inl, bdx_inr, bdc_inl, bdc_inr, obd_some, c1, ↓reduceIte, true_or]
  · by_cases c2 : nI n ≤ i
    · have c2' : ¬ i < nI n := Int32.not_lt.mpr c2
      simp only [F_X5_requireRecord, l_0, l_1, l_2, l_3, l_4, l_5, l_6, l_7, l_8, l_9, l_10, l_11, l_12, l_13, l_14, l_15, l_16, l_17, l_18, l_19, l_20, l_21, l_24, l_25, l_26, l_27, l_31, l_33, l_41, l_65, l_67, l_71, l_84, l_120, l_127, l_128, l_130, l_160, l_162, l_200, l_255, l_256, l_999, l_1000, l_8000, l_9999, l_10000, l_8001, l_m1, t_k0, t_g0, t_p0, t_z0, t_k1, t_g1, t_p1, t_z1, t_k3, t_g3, t_p3, t_z3, t_k187, t_g187, t_p187, t_z187, t_k210, t_g210, t_p210, t_z210, t_k212, t_g212, t_p212, t_z212, t_k214, t_g214, t_p214, t_z214, t_r0_0, t_r0_1, t_r0_2, t_r0_4, t_r0_5, t_r0_6, t_r0_7, t_r1_0, t_r3_0, t_r187_0, t_r187_1, t_r187_2, t_r187_3, t_r210_0, t_r212_0, t_r214_1, t_r214_5, t_r214_6, t_r214_8, t_r214_10, t_a2, t_s2, t_a209, t_s209, t_a211, t_s211, t_a213, t_s213, t_a215, t_s215, t_a216, t_s216, t_a217, t_s217, t_a218, t_s218, t_a219, t_s219, t_a4, t_s4, zSt_sI, zSt_sF, zSt_zI, zSt_sJ, zSt_sD, zBo_0, zBo_1, hS, bd2_some, bdx_inl, bdx_inr, bdc_inl, bdc_inr, obd_some, hz, c1, c2, c2', ↓reduceIte, or_true]
    · have c2' : i < nI n := Int32.not_le.mp c2
      simp only [F_X5_requireRecord, l_0, l_1, l_2, l_3, l_4, l_5, l_6, l_7, l_8, l_9, l_10, l_11, l_12, l_13, l_14, l_15, l_16, l_17, l_18, l_19, l_20, l_21, l_24, l_25, l_26, l_27, l_31, l_33, l_41, l_65, l_67, l_71, l_84, l_120, l_127, l_128, l_130, l_160, l_162, l_200, l_255, l_256, l_999, l_1000, l_8000, l_9999, l_10000, l_8001, l_m1, t_k0, t_g0, t_p0, t_z0, t_k1, t_g1, t_p1, t_z1, t_k3, t_g3, t_p3, t_z3, t_k187, t_g187, t_p187, t_z187, t_k210, t_g210, t_p210, t_z210, t_k212, t_g212, t_p212, t_z212, t_k214, t_g214, t_p214, t_z214, t_r0_0, t_r0_1, t_r0_2, t_r0_4, t_r0_5, t_r0_6, t_r0_7, t_r1_0, t_r3_0, t_r187_0, t_r187_1, t_r187_2, t_r187_3, t_r210_0, t_r212_0, t_r214_1, t_r214_5, t_r214_6, t_r214_8, t_r214_10, t_a2, t_s2, t_a209, t_s209, t_a211, t_s211, t_a213, t_s213, t_a215, t_s215, t_a216, t_s216, t_a217, t_s217, t_a218, t_s218, t_a219, t_s219, t_a4, t_s4, zSt_sI, zSt_sF, zSt_zI, zSt_sJ, zSt_sD, zBo_0, zBo_1, hS, bd2_some, bdx_inl, bdx_inr, bdc_inl, bdc_inr, obd_some, hz, c1, c2, c2', ↓reduceIte, or_self]
theorem C_remove {i : Int32} (hs : xOk s) (h : zCl z s S) : ∃ S', F_L_remove z i S = some ((o_remove s i).1, S') ∧ zCl z (o_remove s i).2 S' ∧ zCf z S S' := by
  obtain ⟨hS, ⟨pp, hL⟩, hR, hD, hT⟩ := id h
  have hl24 := hs.2.2.2.2.1
  have hreq := c_req (i := i) hS hL.2.1
  by_cases c : i < nI 0 ∨ nI (xL s).length ≤ i
  · rw [if_pos c] at hreq
    rw [show o_remove s i = (nI 1, s) from if_pos c]
    refine ⟨S, ?_, h, zCf_refl hS⟩
    simp only [F_L_remove, F_X5_remove, l_0, l_1, l_2, l_3, l_4, l_5, l_6, l_7, l_8, l_9, l_10, l_11, l_12, l_13, l_14, l_15, l_16, l_17, l_18, l_19, l_20, l_21, l_24, l_25, l_26, l_27, l_31, l_33, l_41, l_65, l_67, l_71, l_84, l_120, l_127, l_128, l_130, l_160, l_162, l_200, l_255, l_256, l_999, l_1000, l_8000, l_9999, l_10000, l_8001, l_m1, t_k0, t_g0, t_p0, t_z0, t_k1, t_g1, t_p1, t_z1, t_k3, t_g3, t_p3, t_z3, t_k187, t_g187, t_p187, t_z187, t_k210, t_g210, t_p210, t_z210, t_k212, t_g212, t_p212, t_z212, t_k214, t_g214, t_p214, t_z214, t_r0_0, t_r0_1, t_r0_2, t_r0_4, t_r0_5, t_r0_6, t_r0_7, t_r1_0, t_r3_0, t_r187_0, t_r187_1, t_r187_2, t_r187_3, t_r210_0, t_r212_0, t_r214_1, t_r214_5, t_r214_6, t_r214_8, t_r214_10, t_a2, t_s2, t_a209, t_s209, t_a211, t_s211, t_a213, t_s213, t_a215, t_s215, t_a216, t_s216, t_a217, t_s217, t_a218, t_s218, t_a219, t_s219, t_a4, t_s4, zSt_sI, zSt_sF, zSt_zI, zSt_sJ, zSt_sD, zBo_0, zBo_1, hS, bd2_some, bdx_inl, bdx_inr, bdc_inl, bdc_inr, obd_some, hreq, ↓reduceIte]
  rw [if_neg c] at hreq
  obtain ⟨i', rfl, -, b3⟩ := in_of' (by omega) (fun e => c (Or.inl e)) (fun e => c (Or.inr e)) (by omega)
  have t1 : tn (nI i') = i' := tn_nI (by omega)
  obtain ⟨S1, p1, q1, q2, q3, q4, q5⟩ := c_erase hS hL b3 hl24
  rw [show o_remove s (nI i') = (nI 0, wList s ((xL s).eraseIdx i')) from by unfold o_remove; rw [if_neg c, t1]]
  refine ⟨S1, ?_, ?_, ⟨q2.1, fun a ha => q3 a (by omega)⟩⟩
  · simp only [F_L_remove, F_X5_remove, l_0, l_1, l_2, l_3, l_4, l_5, l_6, l_7, l_8, l_9, l_10, l_11, l_12, l_13, l_14, l_15, l_16, l_17, l_18, l_19, l_20, l_21, l_24, l_25, l_26, l_27, l_31, l_33, l_41, l_65, l_67, l_71, l_84, l_120, l_127, l_128, l_130, l_160, l_162, l_200, l_255, l_256, l_999, l_1000, l_8000, l_9999, l_10000, l_8001, l_m1, t_k0, t_g0, t_p0, t_z0, t_k1, t_g1, t_p1, t_z1, t_k3, t_g3, t_p3, t_z3, t_k187, t_g187, t_p187, t_z187, t_k210, t_g210, t_p210, t_z210, t_k212, t_g212, t_p212, t_z212, t_k214, t_g214, t_p214, t_z214, t_r0_0, t_r0_1, t_r0_2, t_r0_4, t_r0_5, t_r0_6, t_r0_7, t_r1_0, t_r3_0, t_r187_0, t_r187_1, t_r187_2, t_r187_3, t_r210_0, t_r212_0, t_r214_1, t_r214_5, t_r214_6, t_r214_8, t_r214_10, t_a2, t_s2, t_a209, t_s209, t_a211, t_s211, t_a213, t_s213, t_a215, t_s215, t_a216, t_s216, t_a217, t_s217, t_a218, t_s218, t_a219, t_s219, t_a4, t_s4, zSt_sI, zSt_sF, zSt_zI, zSt_sJ, zSt_sD, zBo_0, zBo_1, hS, bd2_some, bdx_inl, bdx_inr, bdc_inl, bdc_inr, obd_some, hreq, q1]
  · exact zCl_list h q2.1 ⟨p1, q4⟩ (fun a ha => q3 a (by omega))
theorem xAt_eq {i : Nat} {r : Rc} (h : (xL s)[i]? = some r) : xAt s i = r := by
  unfold xAt
  rw [List.getD_eq_getElem?_getD, h]
  rfl
theorem xAt_ok (hs : xOk s) {i : Nat} (h : i < (xL s).length) : (xL s)[i]? = some (xAt s i) ∧ aOk (xP s) (xF s) (xAt s i) := by
  have e := List.getElem?_eq_getElem h
  have e2 := xAt_eq e
  rw [e2]
  exact ⟨e, hs.2.2.2.1 _ (List.getElem_mem h)⟩
theorem C_records (h : zCl z s S) : F_X5_records z S = some (nI (xL s).length, S) := by
  obtain ⟨hS, ⟨pp, hL⟩, hR, hD, hT⟩ := id h
  simp only [F_X5_records, l_0, l_1, l_2, l_3, l_4, l_5, l_6, l_7, l_8, l_9, l_10, l_11, l_12, l_13, l_14, l_15, l_16, l_17, l_18, l_19, l_20, l_21, l_24, l_25, l_26, l_27, l_31, l_33, l_41, l_65, l_67, l_71, l_84, l_120, l_127, l_128, l_130, l_160, l_162, l_200, l_255, l_256, l_999, l_1000, l_8000, l_9999, l_10000, l_8001, l_m1, t_k0, t_g0, t_p0, t_z0, t_k1, t_g1, t_p1, t_z1, t_k3, t_g3, t_p3, t_z3, t_k187, t_g187, t_p187, t_z187, t_k210, t_g210, t_p210, t_z210, t_k212, t_g212, t_p212, t_z212, t_k214, t_g214, t_p214, t_z214, t_r0_0, t_r0_1, t_r0_2, t_r0_4, t_r0_5, t_r0_6, t_r0_7, t_r1_0, t_r3_0, t_r187_0, t_r187_1, t_r187_2, t_r187_3, t_r210_0, t_r212_0, t_r214_1, t_r214_5, t_r214_6, t_r214_8, t_r214_10, t_a2, t_s2, t_a209, t_s209, t_a211, t_s211, t_a213, t_s213, t_a215, t_s215, t_a216, t_s216, t_a217, t_s217, t_a218, t_s218, t_a219, t_s219, t_a4, t_s4, zSt_sI, zSt_sF, zSt_zI, zSt_sJ, zSt_sD, zBo_0, zBo_1, hS, bd2_some, bdx_inl, bdx_inr, bdc_inl, bdc_inr, obd_some, hL.2.1]
theorem shr8 : ∀ a, a < 256 → nI a >>> (nI 3 &&& nI 31) = nI (a / 8) ∧ nI a >>> (nI 5 &&& nI 31) = nI (a / 32) ∧ nI a >>> (nI 7 &&& nI 31) = nI (a / 128) := by
  intro a ha
  refine ⟨?_, ?_, ?_⟩ <;> rw [b_31 (by omega), b_shr (by omega) (by omega)]
theorem c_last {rr : Rc} (hv : zVar S v) (hr : zCR S v rr) (hn : 1 ≤ aN rr) (h1 : 1 ≤ aP rr) : F_X4_lastPlace v S = some (nI (aP rr + aL rr 0 - 1), S) := by
  have e0 := (hr.2.1 0 (by omega)).2.1
  have e1 := v_a2 (k := 0) hv (by omega)
  simp only [F_X4_lastPlace, l_0, l_1, l_2, l_3, l_4, l_5, l_6, l_7, l_8, l_9, l_10, l_11, l_12, l_13, l_14, l_15, l_16, l_17, l_18, l_19, l_20, l_21, l_24, l_25, l_26, l_27, l_31, l_33, l_41, l_65, l_67, l_71, l_84, l_120, l_127, l_128, l_130, l_160, l_162, l_200, l_255, l_256, l_999, l_1000, l_8000, l_9999, l_10000, l_8001, l_m1, v_gI hv, v_g4 hv, e1, e0, hr.1.1, bd2_some, bdx_inl, bdx_inr, bdc_inl, bdc_inr, obd_some, nI_add, nI_sub1 (show 1 ≤ aP rr + aL rr 0 by omega)]
theorem c_bin {rr : Rc} (hv : zVar S v) (hr : zCR S v rr) (hn : 1 ≤ aN rr) (h1 : 1 ≤ aP rr) (h2 : aP rr ≤ 160) (h3 : aL rr 0 ≤ 8) : F_X4_bin v S = some (nI (aBin rr), S) := by
  obtain ⟨s1, s2, s3⟩ := shr8 (aP rr) (by omega)
  obtain ⟨u1, u2, u3⟩ := shr8 (aP rr + aL rr 0 - 1) (by omega)
  have hl := c_last hv hr hn h1
  simp only [F_X4_bin, l_0, l_1, l_2, l_3, l_4, l_5, l_6, l_7, l_8, l_9, l_10, l_11, l_12, l_13, l_14, l_15, l_16, l_17, l_18, l_19, l_20, l_21, l_24, l_25, l_26, l_27, l_31, l_33, l_41, l_65, l_67, l_71, l_84, l_120, l_127, l_128, l_130, l_160, l_162, l_200, l_255, l_256, l_999, l_1000, l_8000, l_9999, l_10000, l_8001, l_m1, v_gI hv, v_pk hv, hl, hr.1.1, bd2_some, bdx_inl, bdx_inr, bdc_inl, bdc_inr, obd_some, s1, s2, s3, u1, u2, u3, nI_add, aBin]
  have g1 : (nI (aP rr / 8) = nI ((aP rr + aL rr 0 - 1) / 8)) = (aP rr / 8 = (aP rr + aL rr 0 - 1) / 8) := i_eq (by omega) (by omega)
  have g2 : (nI (aP rr / 32) = nI ((aP rr + aL rr 0 - 1) / 32)) = (aP rr / 32 = (aP rr + aL rr 0 - 1) / 32) := i_eq (by omega) (by omega)
  have g3 : (nI (aP rr / 128) = nI ((aP rr + aL rr 0 - 1) / 128)) = (aP rr / 128 = (aP rr + aL rr 0 - 1) / 128) := i_eq (by omega) (by omega)
  simp only [g1, g2, g3]
  by_cases c1 : aP rr / 8 = (aP rr + aL rr 0 - 1) / 8
  · simp only [c1, ↓reduceIte]
  · by_cases c2 : aP rr / 32 = (aP rr + aL rr 0 - 1) / 32
    · simp only [c1, c2, ↓reduceIte]
    · by_cases c3 : aP rr / 128 = (aP rr + aL rr 0 - 1) / 128
      · simp only [c1, c2, c3, ↓reduceIte]
      · simp only [c1, c2, c3, ↓reduceIte]
theorem C_about {i w : Int32} (hs : xOk s) (h : zCl z s S) : ∃ S', F_L_about z i w (z + 220) S = some ((o_about s i w).1, S') ∧ zCl z s S' ∧ zCf z S S' ∧ ((o_about s i w).1 = nI 0 → mJ S' (z + 220) 0 = (o_about s i w).2.toInt64) := by
  obtain ⟨hS, ⟨pp, hL⟩, hR, hD, hT⟩ := id h
  have hl24 := hs.2.2.2.2.1
  have hreq := c_req (i := i) hS hL.2.1
  by_cases c : i < nI 0 ∨ nI (xL s).length ≤ i
  · rw [if_pos c] at hreq
    rw [show o_about s i w = (nI 1, nI 0) from if_pos (by rcases c with c | c; exact Or.inl c; exact Or.inr (Or.inl c))]
    refine ⟨S, ?_, h, zCf_refl hS, fun e => absurd e ne10⟩
    simp only [F_L_about, F_X5_about, l_0, l_1, l_2, l_3, l_4, l_5, l_6, l_7, l_8, l_9, l_10, l_11, l_12, l_13, l_14, l_15, l_16, l_17, l_18, l_19, l_20, l_21, l_24, l_25, l_26, l_27, l_31, l_33, l_41, l_65, l_67, l_71, l_84, l_120, l_127, l_128, l_130, l_160, l_162, l_200, l_255, l_256, l_999, l_1000, l_8000, l_9999, l_10000, l_8001, l_m1, t_k0, t_g0, t_p0, t_z0, t_k1, t_g1, t_p1, t_z1, t_k3, t_g3, t_p3, t_z3, t_k187, t_g187, t_p187, t_z187, t_k210, t_g210, t_p210, t_z210, t_k212, t_g212, t_p212, t_z212, t_k214, t_g214, t_p214, t_z214, t_r0_0, t_r0_1, t_r0_2, t_r0_4, t_r0_5, t_r0_6, t_r0_7, t_r1_0, t_r3_0, t_r187_0, t_r187_1, t_r187_2, t_r187_3, t_r210_0, t_r212_0, t_r214_1, t_r214_5, t_r214_6, t_r214_8, t_r214_10, t_a2, t_s2, t_a209, t_s209, t_a211, t_s211, t_a213, t_s213, t_a215, t_s215, t_a216, t_s216, t_a217, t_s217, t_a218, t_s218, t_a219, t_s219, t_a4, t_s4, zSt_sI, zSt_sF, zSt_zI, zSt_sJ, zSt_sD, zBo_0, zBo_1, hS, bd2_some, bdx_inl, bdx_inr, bdc_inl, bdc_inr, obd_some, hreq, ↓reduceIte]
  rw [if_neg c] at hreq
  obtain ⟨i', rfl, -, b3⟩ := in_of' (by omega) (fun e => c (Or.inl e)) (fun e => c (Or.inr e)) (by omega)
  have t1 : tn (nI i') = i' := tn_nI (by omega)
  obtain ⟨g1, g2⟩ := xAt_ok hs b3
  obtain ⟨p1, p2⟩ := hL.1.1 i' (by omega)
  have hi24 : i' < 24 := by omega
  have hv : zVar S (z + 5 + 7 * pp i') := t_vi hS (by omega)
  have hr := hL.2.2 i' _ g1
  have e0 := (hr.2.1 0 (by have := g2.1.1; omega)).2.1
  have e1 := v_a2 (k := 0) hv (by omega)
  have o1 := ok31 hs.1 g2
  have hb := c_bin hv hr (by have := g2.1.1; omega) g2.2.2.1.1 o1.1 (g2.2.1.1 0 (by have := g2.1.1; omega)).2.1
  by_cases c2 : w < nI 0 ∨ nI 5 ≤ w
  · have d0 : ¬ w = nI 0 := by rintro rfl; revert c2; decide
    have d1 : ¬ w = nI 1 := by rintro rfl; revert c2; decide
    have d2 : ¬ w = nI 2 := by rintro rfl; revert c2; decide
    have d3 : ¬ w = nI 3 := by rintro rfl; revert c2; decide
    have d4 : ¬ w = nI 4 := by rintro rfl; revert c2; decide
    rw [show o_about s (nI i') w = (nI 1, nI 0) from if_pos (Or.inr (Or.inr c2))]
    refine ⟨S, ?_, h, zCf_refl hS, fun e => absurd e ne10⟩
    simp only [F_L_about, F_X5_about, l_0, l_1, l_2, l_3, l_4, l_5, l_6, l_7, l_8, l_9, l_10, l_11, l_12, l_13, l_14, l_15, l_16, l_17, l_18, l_19, l_20, l_21, l_24, l_25, l_26, l_27, l_31, l_33, l_41, l_65, l_67, l_71, l_84, l_120, l_127, l_128, l_130, l_160, l_162, l_200, l_255, l_256, l_999, l_1000, l_8000, l_9999, l_10000, l_8001, l_m1, t_k0, t_g0, t_p0, t_z0, t_k1, t_g1, t_p1, t_z1, t_k3, t_g3, t_p3, t_z3, t_k187, t_g187, t_p187, t_z187, t_k210, t_g210, t_p210, t_z210, t_k212, t_g212, t_p212, t_z212, t_k214, t_g214, t_p214, t_z214, t_r0_0, t_r0_1, t_r0_2, t_r0_4, t_r0_5, t_r0_6, t_r0_7, t_r1_0, t_r3_0, t_r187_0, t_r187_1, t_r187_2, t_r187_3, t_r210_0, t_r212_0, t_r214_1, t_r214_5, t_r214_6, t_r214_8, t_r214_10, t_a2, t_s2, t_a209, t_s209, t_a211, t_s211, t_a213, t_s213, t_a215, t_s215, t_a216, t_s216, t_a217, t_s217, t_a218, t_s218, t_a219, t_s219, t_a4, t_s4, zSt_sI, zSt_sF, zSt_zI, zSt_sJ, zSt_sD, zBo_0, zBo_1, hS, bd2_some, bdx_inl, bdx_inr, bdc_inl, bdc_inr, obd_some, hreq, hi24, p2, d0, d1, d2, d3, d4, ↓reduceIte]
  obtain ⟨w', rfl, -, b4⟩ := in_of' (by omega) (fun e => c2 (Or.inl e)) (fun e => c2 (Or.inr e)) (by omega)
  have hspec : o_about s (nI i') (nI w') = (nI 0, if nI w' = nI 0 then nI (aP (xAt s i')) else if nI w' = nI 1 then nI (aN (xAt s i')) else if nI w' = nI 2 then nI (aL (xAt s i') 0) else if nI w' = nI 3 then nI (aQ (xAt s i')) else nI (aBin (xAt s i'))) := by
    unfold o_about
    rw [if_neg (by
      rintro (e | e | e)
      · exact c (Or.inl e)
      · exact c (Or.inr e)
      · exact c2 e), t1]
  rw [hspec]
  rcases (show w' = 0 ∨ w' = 1 ∨ w' = 2 ∨ w' = 3 ∨ w' = 4 by omega) with e | e | e | e | e <;> subst e
  · refine ⟨sJ S (z + 220) 0 (nI (aP (xAt s i'))).toInt64, ?_, zCl_sJ h, zCf_sJ (zCf_refl hS), fun _ => mJ_sJ⟩
    simp only [F_L_about, F_X5_about, l_0, l_1, l_2, l_3, l_4, l_5, l_6, l_7, l_8, l_9, l_10, l_11, l_12, l_13, l_14, l_15, l_16, l_17, l_18, l_19, l_20, l_21, l_24, l_25, l_26, l_27, l_31, l_33, l_41, l_65, l_67, l_71, l_84, l_120, l_127, l_128, l_130, l_160, l_162, l_200, l_255, l_256, l_999, l_1000, l_8000, l_9999, l_10000, l_8001, l_m1, t_k0, t_g0, t_p0, t_z0, t_k1, t_g1, t_p1, t_z1, t_k3, t_g3, t_p3, t_z3, t_k187, t_g187, t_p187, t_z187, t_k210, t_g210, t_p210, t_z210, t_k212, t_g212, t_p212, t_z212, t_k214, t_g214, t_p214, t_z214, t_r0_0, t_r0_1, t_r0_2, t_r0_4, t_r0_5, t_r0_6, t_r0_7, t_r1_0, t_r3_0, t_r187_0, t_r187_1, t_r187_2, t_r187_3, t_r210_0, t_r212_0, t_r214_1, t_r214_5, t_r214_6, t_r214_8, t_r214_10, t_a2, t_s2, t_a209, t_s209, t_a211, t_s211, t_a213, t_s213, t_a215, t_s215, t_a216, t_s216, t_a217, t_s217, t_a218, t_s218, t_a219, t_s219, t_a4, t_s4, zSt_sI, zSt_sF, zSt_zI, zSt_sJ, zSt_sD, zBo_0, zBo_1, hS, bd2_some, bdx_inl, bdx_inr, bdc_inl, bdc_inr, obd_some, hreq, hi24, p2, Nat.reducePow, Nat.reduceLT, Nat.reduceLeDiff, Nat.reduceAdd, Nat.reduceMul, Nat.reduceSub, Nat.reduceEqDiff, ↓reduceIte, nI_add, nI_mul, i_le, i_lt, i_eq, i_m1lt, i_ltm1, i_lem1, i_eqm1, i_m1eq, v_gI hv, hr.1.1, t_sJ hS]
  · refine ⟨sJ S (z + 220) 0 (nI (aN (xAt s i'))).toInt64, ?_, zCl_sJ h, zCf_sJ (zCf_refl hS), fun _ => ?_⟩
    · simp only [F_L_about, F_X5_about, l_0, l_1, l_2, l_3, l_4, l_5, l_6, l_7, l_8, l_9, l_10, l_11, l_12, l_13, l_14, l_15, l_16, l_17, l_18, l_19, l_20, l_21, l_24, l_25, l_26, l_27, l_31, l_33, l_41, l_65, l_67, l_71, l_84, l_120, l_127, l_128, l_130, l_160, l_162, l_200, l_255, l_256, l_999, l_1000, l_8000, l_9999, l_10000, l_8001, l_m1, t_k0, t_g0, t_p0, t_z0, t_k1, t_g1, t_p1, t_z1, t_k3, t_g3, t_p3, t_z3, t_k187, t_g187, t_p187, t_z187, t_k210, t_g210, t_p210, t_z210, t_k212, t_g212, t_p212, t_z212, t_k214, t_g214, t_p214, t_z214, t_r0_0, t_r0_1, t_r0_2, t_r0_4, t_r0_5, t_r0_6, t_r0_7, t_r1_0, t_r3_0, t_r187_0, t_r187_1, t_r187_2, t_r187_3, t_r210_0, t_r212_0, t_r214_1, t_r214_5, t_r214_6, t_r214_8, t_r214_10, t_a2, t_s2, t_a209, t_s209, t_a211, t_s211, t_a213, t_s213, t_a215, t_s215, t_a216, t_s216, t_a217, t_s217, t_a218, t_s218, t_a219, t_s219, t_a4, t_s4, zSt_sI, zSt_sF, zSt_zI, zSt_sJ, zSt_sD, zBo_0, zBo_1, hS, bd2_some, bdx_inl, bdx_inr, bdc_inl, bdc_inr, obd_some, hreq, hi24, p2, Nat.reducePow, Nat.reduceLT, Nat.reduceLeDiff, Nat.reduceAdd, Nat.reduceMul, Nat.reduceSub, Nat.reduceEqDiff, ↓reduceIte, nI_add, nI_mul, i_le, i_lt, i_eq, i_m1lt, i_ltm1, i_lem1, i_eqm1, i_m1eq, v_gI hv, hr.1.2.2, t_sJ hS]
    · simp only [Nat.reducePow, Nat.reduceLT, Nat.reduceLeDiff, Nat.reduceAdd, Nat.reduceMul, Nat.reduceSub, Nat.reduceEqDiff, ↓reduceIte, nI_add, nI_mul, i_le, i_lt, i_eq, i_m1lt, i_ltm1, i_lem1, i_eqm1, i_m1eq]; exact mJ_sJ
  · refine ⟨sJ S (z + 220) 0 (nI (aL (xAt s i') 0)).toInt64, ?_, zCl_sJ h, zCf_sJ (zCf_refl hS), fun _ => ?_⟩
    · simp only [F_L_about, F_X5_about, l_0, l_1, l_2, l_3, l_4, l_5, l_6, l_7, l_8, l_9, l_10, l_11, l_12, l_13, l_14, l_15, l_16, l_17, l_18, l_19, l_20, l_21, l_24, l_25, l_26, l_27, l_31, l_33, l_41, l_65, l_67, l_71, l_84, l_120, l_127, l_128, l_130, l_160, l_162, l_200, l_255, l_256, l_999, l_1000, l_8000, l_9999, l_10000, l_8001, l_m1, t_k0, t_g0, t_p0, t_z0, t_k1, t_g1, t_p1, t_z1, t_k3, t_g3, t_p3, t_z3, t_k187, t_g187, t_p187, t_z187, t_k210, t_g210, t_p210, t_z210, t_k212, t_g212, t_p212, t_z212, t_k214, t_g214, t_p214, t_z214, t_r0_0, t_r0_1, t_r0_2, t_r0_4, t_r0_5, t_r0_6, t_r0_7, t_r1_0, t_r3_0, t_r187_0, t_r187_1, t_r187_2, t_r187_3, t_r210_0, t_r212_0, t_r214_1, t_r214_5, t_r214_6, t_r214_8, t_r214_10, t_a2, t_s2, t_a209, t_s209, t_a211, t_s211, t_a213, t_s213, t_a215, t_s215, t_a216, t_s216, t_a217, t_s217, t_a218, t_s218, t_a219, t_s219, t_a4, t_s4, zSt_sI, zSt_sF, zSt_zI, zSt_sJ, zSt_sD, zBo_0, zBo_1, hS, bd2_some, bdx_inl, bdx_inr, bdc_inl, bdc_inr, obd_some, hreq, hi24, p2, Nat.reducePow, Nat.reduceLT, Nat.reduceLeDiff, Nat.reduceAdd, Nat.reduceMul, Nat.reduceSub, Nat.reduceEqDiff, ↓reduceIte, nI_add, nI_mul, i_le, i_lt, i_eq, i_m1lt, i_ltm1, i_lem1, i_eqm1, i_m1eq, v_g4 hv, e1, e0, t_sJ hS]
    · simp only [Nat.reducePow, Nat.reduceLT, Nat.reduceLeDiff, Nat.reduceAdd, Nat.reduceMul, Nat.reduceSub, Nat.reduceEqDiff, ↓reduceIte, nI_add, nI_mul, i_le, i_lt, i_eq, i_m1lt, i_ltm1, i_lem1, i_eqm1, i_m1eq]; exact mJ_sJ
  · refine ⟨sJ S (z + 220) 0 (nI (aQ (xAt s i'))).toInt64, ?_, zCl_sJ h, zCf_sJ (zCf_refl hS), fun _ => ?_⟩
    · simp only [F_L_about, F_X5_about, l_0, l_1, l_2, l_3, l_4, l_5, l_6, l_7, l_8, l_9, l_10, l_11, l_12, l_13, l_14, l_15, l_16, l_17, l_18, l_19, l_20, l_21, l_24, l_25, l_26, l_27, l_31, l_33, l_41, l_65, l_67, l_71, l_84, l_120, l_127, l_128, l_130, l_160, l_162, l_200, l_255, l_256, l_999, l_1000, l_8000, l_9999, l_10000, l_8001, l_m1, t_k0, t_g0, t_p0, t_z0, t_k1, t_g1, t_p1, t_z1, t_k3, t_g3, t_p3, t_z3, t_k187, t_g187, t_p187, t_z187, t_k210, t_g210, t_p210, t_z210, t_k212, t_g212, t_p212, t_z212, t_k214, t_g214, t_p214, t_z214, t_r0_0, t_r0_1, t_r0_2, t_r0_4, t_r0_5, t_r0_6, t_r0_7, t_r1_0, t_r3_0, t_r187_0, t_r187_1, t_r187_2, t_r187_3, t_r210_0, t_r212_0, t_r214_1, t_r214_5, t_r214_6, t_r214_8, t_r214_10, t_a2, t_s2, t_a209, t_s209, t_a211, t_s211, t_a213, t_s213, t_a215, t_s215, t_a216, t_s216, t_a217, t_s217, t_a218, t_s218, t_a219, t_s219, t_a4, t_s4, zSt_sI, zSt_sF, zSt_zI, zSt_sJ, zSt_sD, zBo_0, zBo_1, hS, bd2_some, bdx_inl, bdx_inr, bdc_inl, bdc_inr, obd_some, hreq, hi24, p2, Nat.reducePow, Nat.reduceLT, Nat.reduceLeDiff, Nat.reduceAdd, Nat.reduceMul, Nat.reduceSub, Nat.reduceEqDiff, ↓reduceIte, nI_add, nI_mul, i_le, i_lt, i_eq, i_m1lt, i_ltm1, i_lem1, i_eqm1, i_m1eq, v_gI hv, hr.1.2.1, t_sJ hS]
    · simp only [Nat.reducePow, Nat.reduceLT, Nat.reduceLeDiff, Nat.reduceAdd, Nat.reduceMul, Nat.reduceSub, Nat.reduceEqDiff, ↓reduceIte, nI_add, nI_mul, i_le, i_lt, i_eq, i_m1lt, i_ltm1, i_lem1, i_eqm1, i_m1eq]; exact mJ_sJ
  · refine ⟨sJ S (z + 220) 0 (nI (aBin (xAt s i'))).toInt64, ?_, zCl_sJ h, zCf_sJ (zCf_refl hS), fun _ => ?_⟩
    · simp only [F_L_about, F_X5_about, l_0, l_1, l_2, l_3, l_4, l_5, l_6, l_7, l_8, l_9, l_10, l_11, l_12, l_13, l_14, l_15, l_16, l_17, l_18, l_19, l_20, l_21, l_24, l_25, l_26, l_27, l_31, l_33, l_41, l_65, l_67, l_71, l_84, l_120, l_127, l_128, l_130, l_160, l_162, l_200, l_255, l_256, l_999, l_1000, l_8000, l_9999, l_10000, l_8001, l_m1, t_k0, t_g0, t_p0, t_z0, t_k1, t_g1, t_p1, t_z1, t_k3, t_g3, t_p3, t_z3, t_k187, t_g187, t_p187, t_z187, t_k210, t_g210, t_p210, t_z210, t_k212, t_g212, t_p212, t_z212, t_k214, t_g214, t_p214, t_z214, t_r0_0, t_r0_1, t_r0_2, t_r0_4, t_r0_5, t_r0_6, t_r0_7, t_r1_0, t_r3_0, t_r187_0, t_r187_1, t_r187_2, t_r187_3, t_r210_0, t_r212_0, t_r214_1, t_r214_5, t_r214_6, t_r214_8, t_r214_10, t_a2, t_s2, t_a209, t_s209, t_a211, t_s211, t_a213, t_s213, t_a215, t_s215, t_a216, t_s216, t_a217, t_s217, t_a218, t_s218, t_a219, t_s219, t_a4, t_s4, zSt_sI, zSt_sF, zSt_zI, zSt_sJ, zSt_sD, zBo_0, zBo_1, hS, bd2_some, bdx_inl, bdx_inr, bdc_inl, bdc_inr, obd_some, hreq, hi24, p2, Nat.reducePow, Nat.reduceLT, Nat.reduceLeDiff, Nat.reduceAdd, Nat.reduceMul, Nat.reduceSub, Nat.reduceEqDiff, ↓reduceIte, nI_add, nI_mul, i_le, i_lt, i_eq, i_m1lt, i_ltm1, i_lem1, i_eqm1, i_m1eq, v_pk hv, hb, t_sJ hS]
    · simp only [Nat.reducePow, Nat.reduceLT, Nat.reduceLeDiff, Nat.reduceAdd, Nat.reduceMul, Nat.reduceSub, Nat.reduceEqDiff, ↓reduceIte, nI_add, nI_mul, i_le, i_lt, i_eq, i_m1lt, i_ltm1, i_lem1, i_eqm1, i_m1eq]; exact mJ_sJ
theorem C_base {i a j : Int32} (hs : xOk s) (h : zCl z s S) : ∃ S', F_L_base z i a j (z + 220) S = some ((o_base s i a j).1, S') ∧ zCl z s S' ∧ zCf z S S' ∧ ((o_base s i a j).1 = nI 0 → mJ S' (z + 220) 0 = (o_base s i a j).2.toInt64) := by
  obtain ⟨hS, ⟨pp, hL⟩, hR, hD, hT⟩ := id h
  have hl24 := hs.2.2.2.2.1
  have hreq := c_req (i := i) hS hL.2.1
  by_cases c : i < nI 0 ∨ nI (xL s).length ≤ i
  · rw [if_pos c] at hreq
    rw [show o_base s i a j = (nI 1, nI 0) from if_pos c]
    refine ⟨S, ?_, h, zCf_refl hS, fun e => absurd e ne10⟩
    simp only [F_L_base, F_X5_base, l_0, l_1, l_2, l_3, l_4, l_5, l_6, l_7, l_8, l_9, l_10, l_11, l_12, l_13, l_14, l_15, l_16, l_17, l_18, l_19, l_20, l_21, l_24, l_25, l_26, l_27, l_31, l_33, l_41, l_65, l_67, l_71, l_84, l_120, l_127, l_128, l_130, l_160, l_162, l_200, l_255, l_256, l_999, l_1000, l_8000, l_9999, l_10000, l_8001, l_m1, t_k0, t_g0, t_p0, t_z0, t_k1, t_g1, t_p1, t_z1, t_k3, t_g3, t_p3, t_z3, t_k187, t_g187, t_p187, t_z187, t_k210, t_g210, t_p210, t_z210, t_k212, t_g212, t_p212, t_z212, t_k214, t_g214, t_p214, t_z214, t_r0_0, t_r0_1, t_r0_2, t_r0_4, t_r0_5, t_r0_6, t_r0_7, t_r1_0, t_r3_0, t_r187_0, t_r187_1, t_r187_2, t_r187_3, t_r210_0, t_r212_0, t_r214_1, t_r214_5, t_r214_6, t_r214_8, t_r214_10, t_a2, t_s2, t_a209, t_s209, t_a211, t_s211, t_a213, t_s213, t_a215, t_s215, t_a216, t_s216, t_a217, t_s217, t_a218, t_s218, t_a219, t_s219, t_a4, t_s4, zSt_sI, zSt_sF, zSt_zI, zSt_sJ, zSt_sD, zBo_0, zBo_1, hS, bd2_some, bdx_inl, bdx_inr, bdc_inl, bdc_inr, obd_some, hreq, ↓reduceIte]
  rw [if_neg c] at hreq
  have cs := c
  obtain ⟨i', rfl, -, b3⟩ := in_of' (by omega) (fun e => c (Or.inl e)) (fun e => c (Or.inr e)) (by omega)
  have t1 : tn (nI i') = i' := tn_nI (by omega)
  obtain ⟨g1, g2⟩ := xAt_ok hs b3
  obtain ⟨p1, p2⟩ := hL.1.1 i' (by omega)
  have hi24 : i' < 24 := by omega
  have hv : zVar S (z + 5 + 7 * pp i') := t_vi hS (by omega)
  have hr := hL.2.2 i' _ g1
  have gn := hr.1.2.2
  have hn4 := g2.1.2
  by_cases c2 : a < nI 0 ∨ nI (aN (xAt s i')) ≤ a
  · rw [show o_base s (nI i') a j = (nI 1, nI 0) from by unfold o_base; rw [if_neg cs, t1, if_pos c2]]
    refine ⟨S, ?_, h, zCf_refl hS, fun e => absurd e ne10⟩
    simp only [F_L_base, F_X5_base, l_0, l_1, l_2, l_3, l_4, l_5, l_6, l_7, l_8, l_9, l_10, l_11, l_12, l_13, l_14, l_15, l_16, l_17, l_18, l_19, l_20, l_21, l_24, l_25, l_26, l_27, l_31, l_33, l_41, l_65, l_67, l_71, l_84, l_120, l_127, l_128, l_130, l_160, l_162, l_200, l_255, l_256, l_999, l_1000, l_8000, l_9999, l_10000, l_8001, l_m1, t_k0, t_g0, t_p0, t_z0, t_k1, t_g1, t_p1, t_z1, t_k3, t_g3, t_p3, t_z3, t_k187, t_g187, t_p187, t_z187, t_k210, t_g210, t_p210, t_z210, t_k212, t_g212, t_p212, t_z212, t_k214, t_g214, t_p214, t_z214, t_r0_0, t_r0_1, t_r0_2, t_r0_4, t_r0_5, t_r0_6, t_r0_7, t_r1_0, t_r3_0, t_r187_0, t_r187_1, t_r187_2, t_r187_3, t_r210_0, t_r212_0, t_r214_1, t_r214_5, t_r214_6, t_r214_8, t_r214_10, t_a2, t_s2, t_a209, t_s209, t_a211, t_s211, t_a213, t_s213, t_a215, t_s215, t_a216, t_s216, t_a217, t_s217, t_a218, t_s218, t_a219, t_s219, t_a4, t_s4, zSt_sI, zSt_sF, zSt_zI, zSt_sJ, zSt_sD, zBo_0, zBo_1, hS, bd2_some, bdx_inl, bdx_inr, bdc_inl, bdc_inr, obd_some, hreq, hi24, p2, v_pk hv, c_hasAllele hv, gn, c2, ↓reduceIte]
  have c2s := c2
  obtain ⟨a', rfl, -, b4⟩ := in_of' (by omega) (fun e => c2 (Or.inl e)) (fun e => c2 (Or.inr e)) (by omega)
  have t2 : tn (nI a') = a' := tn_nI (by omega)
  obtain ⟨e1, e2, -⟩ := hr.2.1 a' b4
  have ha4 : a' < 4 := by omega
  have f1 := v_a1 (k := a') hv ha4
  have f2 := v_a2 (k := a') hv ha4
  obtain ⟨l1, l2, l3⟩ := g2.2.1.1 a' b4
  have hp8 := p4_8 l2
  by_cases c3 : j < m1 ∨ nI (aL (xAt s i') a') ≤ j
  · rw [show o_base s (nI i') (nI a') j = (nI 2, nI 0) from by unfold o_base; rw [if_neg cs, t1, if_neg c2s, t2, if_pos c3]]
    refine ⟨S, ?_, h, zCf_refl hS, fun e => absurd e n20⟩
    rcases c3 with c3 | c3
    · simp only [F_L_base, F_X5_base, l_0, l_1, l_2, l_3, l_4, l_5, l_6, l_7, l_8, l_9, l_10, l_11, l_12, l_13, l_14, l_15, l_16, l_17, l_18, l_19, l_20, l_21, l_24, l_25, l_26, l_27, l_31, l_33, l_41, l_65, l_67, l_71, l_84, l_120, l_127, l_128, l_130, l_160, l_162, l_200, l_255, l_256, l_999, l_1000, l_8000, l_9999, l_10000, l_8001, l_m1, t_k0, t_g0, t_p0, t_z0, t_k1, t_g1, t_p1, t_z1, t_k3, t_g3, t_p3, t_z3, t_k187, t_g187, t_p187, t_z187, t_k210, t_g210, t_p210, t_z210, t_k212, t_g212, t_p212, t_z212, t_k214, t_g214, t_p214, t_z214, t_r0_0, t_r0_1, t_r0_2, t_r0_4, t_r0_5, t_r0_6, t_r0_7, t_r1_0, t_r3_0, t_r187_0, t_r187_1, t_r187_2, t_r187_3, t_r210_0, t_r212_0, t_r214_1, t_r214_5, t_r214_6, t_r214_8, t_r214_10, t_a2, t_s2, t_a209, t_s209, t_a211, t_s211, t_a213, t_s213, t_a215, t_s215, t_a216, t_s216, t_a217, t_s217, t_a218, t_s218, t_a219, t_s219, t_a4, t_s4, zSt_sI, zSt_sF, zSt_zI, zSt_sJ, zSt_sD, zBo_0, zBo_1, hS, bd2_some, bdx_inl, bdx_inr, bdc_inl, bdc_inr, obd_some, hreq, hi24, p2, v_pk hv, c_hasAllele hv, gn, c2, ne10, ↓reduceIte, v_g4 hv, f2, c3, String.reduceEq]
    · have c3' : ¬ j < nI (aL (xAt s i') a') := Int32.not_lt.mpr c3
      have c3'' : ¬ j < m1 := fun q => by
        have := (lt_m1 q).1
        exact c3' (Int32.lt_of_lt_of_le this (nI_le (by omega) (by omega)))
      simp only [F_L_base, F_X5_base, l_0, l_1, l_2, l_3, l_4, l_5, l_6, l_7, l_8, l_9, l_10, l_11, l_12, l_13, l_14, l_15, l_16, l_17, l_18, l_19, l_20, l_21, l_24, l_25, l_26, l_27, l_31, l_33, l_41, l_65, l_67, l_71, l_84, l_120, l_127, l_128, l_130, l_160, l_162, l_200, l_255, l_256, l_999, l_1000, l_8000, l_9999, l_10000, l_8001, l_m1, t_k0, t_g0, t_p0, t_z0, t_k1, t_g1, t_p1, t_z1, t_k3, t_g3, t_p3, t_z3, t_k187, t_g187, t_p187, t_z187, t_k210, t_g210, t_p210, t_z210, t_k212, t_g212, t_p212, t_z212, t_k214, t_g214, t_p214, t_z214, t_r0_0, t_r0_1, t_r0_2, t_r0_4, t_r0_5, t_r0_6, t_r0_7, t_r1_0, t_r3_0, t_r187_0, t_r187_1, t_r187_2, t_r187_3, t_r210_0, t_r212_0, t_r214_1, t_r214_5, t_r214_6, t_r214_8, t_r214_10, t_a2, t_s2, t_a209, t_s209, t_a211, t_s211, t_a213, t_s213, t_a215, t_s215, t_a216, t_s216, t_a217, t_s217, t_a218, t_s218, t_a219, t_s219, t_a4, t_s4, zSt_sI, zSt_sF, zSt_zI, zSt_sJ, zSt_sD, zBo_0, zBo_1, hS, bd2_some, bdx_inl, bdx_inr, bdc_inl, bdc_inr, obd_some, hreq, hi24, p2, v_pk hv, c_hasAllele hv, gn, c2, ne10, ↓reduceIte, v_g4 hv, f2, e2, c3', c3'', String.reduceEq]
  have c31 : ¬ j < m1 := fun e => c3 (Or.inl e)
  have c32 : j < nI (aL (xAt s i') a') := Int32.not_le.mp (fun e => c3 (Or.inr e))
  by_cases c4 : j = m1
  · rw [show o_base s (nI i') (nI a') j = (nI 0, nI (aL (xAt s i') a')) from by unfold o_base; rw [if_neg cs, t1, if_neg c2s, t2, if_neg c3, if_pos c4]]
    refine ⟨sJ S (z + 220) 0 (nI (aL (xAt s i') a')).toInt64, ?_, zCl_sJ h, zCf_sJ (zCf_refl hS), fun _ => mJ_sJ⟩
    simp only [F_L_base, F_X5_base, l_0, l_1, l_2, l_3, l_4, l_5, l_6, l_7, l_8, l_9, l_10, l_11, l_12, l_13, l_14, l_15, l_16, l_17, l_18, l_19, l_20, l_21, l_24, l_25, l_26, l_27, l_31, l_33, l_41, l_65, l_67, l_71, l_84, l_120, l_127, l_128, l_130, l_160, l_162, l_200, l_255, l_256, l_999, l_1000, l_8000, l_9999, l_10000, l_8001, l_m1, t_k0, t_g0, t_p0, t_z0, t_k1, t_g1, t_p1, t_z1, t_k3, t_g3, t_p3, t_z3, t_k187, t_g187, t_p187, t_z187, t_k210, t_g210, t_p210, t_z210, t_k212, t_g212, t_p212, t_z212, t_k214, t_g214, t_p214, t_z214, t_r0_0, t_r0_1, t_r0_2, t_r0_4, t_r0_5, t_r0_6, t_r0_7, t_r1_0, t_r3_0, t_r187_0, t_r187_1, t_r187_2, t_r187_3, t_r210_0, t_r212_0, t_r214_1, t_r214_5, t_r214_6, t_r214_8, t_r214_10, t_a2, t_s2, t_a209, t_s209, t_a211, t_s211, t_a213, t_s213, t_a215, t_s215, t_a216, t_s216, t_a217, t_s217, t_a218, t_s218, t_a219, t_s219, t_a4, t_s4, zSt_sI, zSt_sF, zSt_zI, zSt_sJ, zSt_sD, zBo_0, zBo_1, hS, bd2_some, bdx_inl, bdx_inr, bdc_inl, bdc_inr, obd_some, hreq, hi24, p2, v_pk hv, c_hasAllele hv, gn, c2, ne10, ↓reduceIte, v_g4 hv, f2, e2, c31, c32, c4, t_sJ hS]
    rw [if_neg (by decide), if_pos (by rw [← c4]; exact c32)]
    simp only [bd2_some, bdx_inl, bdx_inr, bdc_inl, bdc_inr, obd_some, t_sJ hS]
  have c5 : ¬ j < nI 0 := by
    rcases m1_iff (x := j) with e | e | e
    · exact absurd e c31
    · exact absurd e c4
    · exact e
  obtain ⟨j', rfl, -, b5⟩ := in_of' (by omega) c5 (Int32.not_le.mpr c32) (by omega)
  have t3 : tn (nI j') = j' := tn_nI (by omega)
  have hb := c_baseOf (b := (nI (aB (xAt s i') a')).toInt64) (n := aL (xAt s i') a') (i := j') (d := aL (xAt s i') a' - 1 - j') (S := S) (by omega) (by omega) (by omega)
  rw [dg_nI (by omega)] at hb
  rw [show o_base s (nI i') (nI a') (nI j') = (nI 0, nI (aB (xAt s i') a' / 4 ^ (aL (xAt s i') a' - 1 - j') % 4)) from by unfold o_base; rw [if_neg cs, t1, if_neg c2s, t2, if_neg c3, if_neg c4, t3]]
  refine ⟨sJ S (z + 220) 0 (nI (aB (xAt s i') a' / 4 ^ (aL (xAt s i') a' - 1 - j') % 4)).toInt64, ?_, zCl_sJ h, zCf_sJ (zCf_refl hS), fun _ => mJ_sJ⟩
  simp only [F_L_base, F_X5_base, l_0, l_1, l_2, l_3, l_4, l_5, l_6, l_7, l_8, l_9, l_10, l_11, l_12, l_13, l_14, l_15, l_16, l_17, l_18, l_19, l_20, l_21, l_24, l_25, l_26, l_27, l_31, l_33, l_41, l_65, l_67, l_71, l_84, l_120, l_127, l_128, l_130, l_160, l_162, l_200, l_255, l_256, l_999, l_1000, l_8000, l_9999, l_10000, l_8001, l_m1, t_k0, t_g0, t_p0, t_z0, t_k1, t_g1, t_p1, t_z1, t_k3, t_g3, t_p3, t_z3, t_k187, t_g187, t_p187, t_z187, t_k210, t_g210, t_p210, t_z210, t_k212, t_g212, t_p212, t_z212, t_k214, t_g214, t_p214, t_z214, t_r0_0, t_r0_1, t_r0_2, t_r0_4, t_r0_5, t_r0_6, t_r0_7, t_r1_0, t_r3_0, t_r187_0, t_r187_1, t_r187_2, t_r187_3, t_r210_0, t_r212_0, t_r214_1, t_r214_5, t_r214_6, t_r214_8, t_r214_10, t_a2, t_s2, t_a209, t_s209, t_a211, t_s211, t_a213, t_s213, t_a215, t_s215, t_a216, t_s216, t_a217, t_s217, t_a218, t_s218, t_a219, t_s219, t_a4, t_s4, zSt_sI, zSt_sF, zSt_zI, zSt_sJ, zSt_sD, zBo_0, zBo_1, hS, bd2_some, bdx_inl, bdx_inr, bdc_inl, bdc_inr, obd_some, hreq, hi24, p2, v_pk hv, c_hasAllele hv, gn, c2, ne10, ↓reduceIte, v_g4 hv, v_g3 hv, f1, f2, e1, e2, c31, c32, c4, hb, t_sJ hS]
theorem c_region {b e : Int32} : F_X5_requireRegion b e S = some (if bad2 b e = true then .inr "java/lang/IllegalArgumentException" else .inl (), S) := by
  unfold bad2
  by_cases c1 : b < nI 1
  · simp [F_X5_requireRegion, l_0, l_1, l_2, l_3, l_4, l_5, l_6, l_7, l_8, l_9, l_10, l_11, l_12, l_13, l_14, l_15, l_16, l_17, l_18, l_19, l_20, l_21, l_24, l_25, l_26, l_27, l_31, l_33, l_41, l_65, l_67, l_71, l_84, l_120, l_127, l_128, l_130, l_160, l_162, l_200, l_255, l_256, l_999, l_1000, l_8000, l_9999, l_10000, l_8001, l_m1, c1]
  · by_cases c2 : e < b
    · simp [F_X5_requireRegion, l_0, l_1, l_2, l_3, l_4, l_5, l_6, l_7, l_8, l_9, l_10, l_11, l_12, l_13, l_14, l_15, l_16, l_17, l_18, l_19, l_20, l_21, l_24, l_25, l_26, l_27, l_31, l_33, l_41, l_65, l_67, l_71, l_84, l_120, l_127, l_128, l_130, l_160, l_162, l_200, l_255, l_256, l_999, l_1000, l_8000, l_9999, l_10000, l_8001, l_m1, c1, c2]
    · by_cases c3 : nI 255 < e
      · have c3' : ¬ e ≤ nI 255 := Int32.not_le.mpr c3
        simp only [F_X5_requireRegion, l_0, l_1, l_2, l_3, l_4, l_5, l_6, l_7, l_8, l_9, l_10, l_11, l_12, l_13, l_14, l_15, l_16, l_17, l_18, l_19, l_20, l_21, l_24, l_25, l_26, l_27, l_31, l_33, l_41, l_65, l_67, l_71, l_84, l_120, l_127, l_128, l_130, l_160, l_162, l_200, l_255, l_256, l_999, l_1000, l_8000, l_9999, l_10000, l_8001, l_m1, c1, c2, c3, c3', ↓reduceIte, or_true, decide_true]
      · have c3' : e ≤ nI 255 := Int32.not_lt.mp c3
        simp only [F_X5_requireRegion, l_0, l_1, l_2, l_3, l_4, l_5, l_6, l_7, l_8, l_9, l_10, l_11, l_12, l_13, l_14, l_15, l_16, l_17, l_18, l_19, l_20, l_21, l_24, l_25, l_26, l_27, l_31, l_33, l_41, l_65, l_67, l_71, l_84, l_120, l_127, l_128, l_130, l_160, l_162, l_200, l_255, l_256, l_999, l_1000, l_8000, l_9999, l_10000, l_8001, l_m1, c1, c2, c3, c3', ↓reduceIte, or_self, decide_false, Bool.false_eq_true]
theorem c_spans {b e : Int32} {rr : Rc} (hv : zVar S v) (hr : zCR S v rr) (hn : 1 ≤ aN rr) (h1 : 1 ≤ aP rr) (h2 : aP rr ≤ 160) (h3 : aL rr 0 ≤ 8) : F_X4_spansOneOf v b e S = some (if spn b e rr = true then nI 1 else nI 0, S) := by
  have hl := c_last hv hr hn h1
  have key : (b < nI (aP rr + aL rr 0)) ↔ ¬ nI (aP rr + aL rr 0 - 1) < b := by
    rw [Int32.lt_iff_toInt_lt, Int32.lt_iff_toInt_lt, nI_toInt (by omega), nI_toInt (by omega)]
    omega
  unfold spn
  by_cases c1 : e < nI (aP rr)
  · have c1' : ¬ nI (aP rr) ≤ e := Int32.not_le.mpr c1
    simp only [F_X4_spansOneOf, l_0, l_1, l_2, l_3, l_4, l_5, l_6, l_7, l_8, l_9, l_10, l_11, l_12, l_13, l_14, l_15, l_16, l_17, l_18, l_19, l_20, l_21, l_24, l_25, l_26, l_27, l_31, l_33, l_41, l_65, l_67, l_71, l_84, l_120, l_127, l_128, l_130, l_160, l_162, l_200, l_255, l_256, l_999, l_1000, l_8000, l_9999, l_10000, l_8001, l_m1, v_gI hv, hr.1.1, bd2_some, bdx_inl, bdx_inr, bdc_inl, bdc_inr, obd_some, c1, c1', ↓reduceIte, false_and, decide_false, Bool.false_eq_true]
  · have c1' : nI (aP rr) ≤ e := Int32.not_lt.mp c1
    by_cases c2 : nI (aP rr + aL rr 0 - 1) < b
    · have c2' : ¬ b < nI (aP rr + aL rr 0) := fun q => key.mp q c2
      simp only [F_X4_spansOneOf, l_0, l_1, l_2, l_3, l_4, l_5, l_6, l_7, l_8, l_9, l_10, l_11, l_12, l_13, l_14, l_15, l_16, l_17, l_18, l_19, l_20, l_21, l_24, l_25, l_26, l_27, l_31, l_33, l_41, l_65, l_67, l_71, l_84, l_120, l_127, l_128, l_130, l_160, l_162, l_200, l_255, l_256, l_999, l_1000, l_8000, l_9999, l_10000, l_8001, l_m1, v_gI hv, v_pk hv, hl, hr.1.1, bd2_some, bdx_inl, bdx_inr, bdc_inl, bdc_inr, obd_some, c1, c1', c2, c2', ↓reduceIte, and_false, decide_false, Bool.false_eq_true]
    · have c2' : b < nI (aP rr + aL rr 0) := key.mpr c2
      simp only [F_X4_spansOneOf, l_0, l_1, l_2, l_3, l_4, l_5, l_6, l_7, l_8, l_9, l_10, l_11, l_12, l_13, l_14, l_15, l_16, l_17, l_18, l_19, l_20, l_21, l_24, l_25, l_26, l_27, l_31, l_33, l_41, l_65, l_67, l_71, l_84, l_120, l_127, l_128, l_130, l_160, l_162, l_200, l_255, l_256, l_999, l_1000, l_8000, l_9999, l_10000, l_8001, l_m1, v_gI hv, v_pk hv, hl, hr.1.1, bd2_some, bdx_inl, bdx_inr, bdc_inl, bdc_inr, obd_some, c1, c1', c2, c2', ↓reduceIte, and_self, decide_true]
theorem c_found_L {b e : Int32} {p : Nat → Nat} {ls : List Rc} {pq : Nat} {rf : Nat → Nat} (hq : pq ≤ 160) (h : zSt z S) (hp : zLv z S p ls) (h2 : ls.length ≤ 24) (hB : ∀ t, t ∈ ls → aOk pq rf t) :
    ∀ (m fu j k : Nat), j + m = ls.length → m < fu → F_X5_found_L10 fu z b e (nI k) (nI j) S = some (.inl (nI (k + cnt b e (ls.drop j))), S) := by
  intro m
  induction m with
  | zero =>
    intro fu j k hj hf
    obtain ⟨fu, rfl⟩ : ∃ f, fu = f + 1 := ⟨fu - 1, by omega⟩
    have h1 : nI ls.length ≤ nI j := nI_le (by omega) (by omega)
    rw [List.drop_eq_nil_of_le (by omega)]
    simp only [F_X5_found_L10, l_0, l_1, l_2, l_3, l_4, l_5, l_6, l_7, l_8, l_9, l_10, l_11, l_12, l_13, l_14, l_15, l_16, l_17, l_18, l_19, l_20, l_21, l_24, l_25, l_26, l_27, l_31, l_33, l_41, l_65, l_67, l_71, l_84, l_120, l_127, l_128, l_130, l_160, l_162, l_200, l_255, l_256, l_999, l_1000, l_8000, l_9999, l_10000, l_8001, l_m1, t_k0, t_g0, t_p0, t_z0, t_k1, t_g1, t_p1, t_z1, t_k3, t_g3, t_p3, t_z3, t_k187, t_g187, t_p187, t_z187, t_k210, t_g210, t_p210, t_z210, t_k212, t_g212, t_p212, t_z212, t_k214, t_g214, t_p214, t_z214, t_r0_0, t_r0_1, t_r0_2, t_r0_4, t_r0_5, t_r0_6, t_r0_7, t_r1_0, t_r3_0, t_r187_0, t_r187_1, t_r187_2, t_r187_3, t_r210_0, t_r212_0, t_r214_1, t_r214_5, t_r214_6, t_r214_8, t_r214_10, t_a2, t_s2, t_a209, t_s209, t_a211, t_s211, t_a213, t_s213, t_a215, t_s215, t_a216, t_s216, t_a217, t_s217, t_a218, t_s218, t_a219, t_s219, t_a4, t_s4, zSt_sI, zSt_sF, zSt_zI, zSt_sJ, zSt_sD, zBo_0, zBo_1, h, hp.2.1, h1, bd2_some, bdx_inl, bdx_inr, bdc_inl, bdc_inr, obd_some, ↓reduceIte, cnt, Nat.add_zero]
  | succ m ih =>
    intro fu j k hj hf
    obtain ⟨fu, rfl⟩ : ∃ f, fu = f + 1 := ⟨fu - 1, by omega⟩
    have h1 : ¬ nI ls.length ≤ nI j := nI_ge (by omega) (by omega)
    have h3 : j < 24 := by omega
    have h4 : j < ls.length := by omega
    obtain ⟨p1, p2⟩ := hp.1.1 j h3
    have hv : zVar S (z + 5 + 7 * p j) := t_vi h (by omega)
    have hc := hp.2.2 j ls[j] (List.getElem?_eq_getElem h4)
    have hb := hB _ (List.getElem_mem h4)
    have hsp := c_spans (b := b) (e := e) hv hc (by have := hb.1.1; omega) hb.2.2.1.1 (ok31 hq hb).1 (hb.2.1.1 0 (by have := hb.1.1; omega)).2.1
    rw [List.drop_eq_getElem_cons h4]
    simp only [F_X5_found_L10, F_X5_found_J43, l_0, l_1, l_2, l_3, l_4, l_5, l_6, l_7, l_8, l_9, l_10, l_11, l_12, l_13, l_14, l_15, l_16, l_17, l_18, l_19, l_20, l_21, l_24, l_25, l_26, l_27, l_31, l_33, l_41, l_65, l_67, l_71, l_84, l_120, l_127, l_128, l_130, l_160, l_162, l_200, l_255, l_256, l_999, l_1000, l_8000, l_9999, l_10000, l_8001, l_m1, t_k0, t_g0, t_p0, t_z0, t_k1, t_g1, t_p1, t_z1, t_k3, t_g3, t_p3, t_z3, t_k187, t_g187, t_p187, t_z187, t_k210, t_g210, t_p210, t_z210, t_k212, t_g212, t_p212, t_z212, t_k214, t_g214, t_p214, t_z214, t_r0_0, t_r0_1, t_r0_2, t_r0_4, t_r0_5, t_r0_6, t_r0_7, t_r1_0, t_r3_0, t_r187_0, t_r187_1, t_r187_2, t_r187_3, t_r210_0, t_r212_0, t_r214_1, t_r214_5, t_r214_6, t_r214_8, t_r214_10, t_a2, t_s2, t_a209, t_s209, t_a211, t_s211, t_a213, t_s213, t_a215, t_s215, t_a216, t_s216, t_a217, t_s217, t_a218, t_s218, t_a219, t_s219, t_a4, t_s4, zSt_sI, zSt_sF, zSt_zI, zSt_sJ, zSt_sD, zBo_0, zBo_1, h, hp.2.1, h1, h3, p2, bd2_some, bdx_inl, bdx_inr, bdc_inl, bdc_inr, obd_some, ↓reduceIte, v_pk hv, hsp, cnt, nI_add]
    by_cases c : spn b e ls[j] = true
    · simp only [c, ↓reduceIte, ne10]
      rw [ih fu (j + 1) (k + 1) (by omega) (by omega), Nat.add_assoc]
    · simp only [c, ↓reduceIte, Bool.false_eq_true]
      rw [ih fu (j + 1) k (by omega) (by omega), Nat.zero_add]
theorem C_found {b e : Int32} (hs : xOk s) (h : zCl z s S) : ∃ S', F_L_found z b e (z + 220) S = some ((o_found s b e).1, S') ∧ zCl z s S' ∧ zCf z S S' ∧ ((o_found s b e).1 = nI 0 → mJ S' (z + 220) 0 = (o_found s b e).2.toInt64) := by
  obtain ⟨hS, ⟨pp, hL⟩, hR, hD, hT⟩ := id h
  have hl24 := hs.2.2.2.2.1
  have hreg := c_region (b := b) (e := e) (S := S)
  by_cases c : bad2 b e = true
  · rw [if_pos c] at hreg
    rw [show o_found s b e = (nI 1, nI 0) from if_pos c]
    refine ⟨S, ?_, h, zCf_refl hS, fun e => absurd e ne10⟩
    simp only [F_L_found, F_X5_found, l_0, l_1, l_2, l_3, l_4, l_5, l_6, l_7, l_8, l_9, l_10, l_11, l_12, l_13, l_14, l_15, l_16, l_17, l_18, l_19, l_20, l_21, l_24, l_25, l_26, l_27, l_31, l_33, l_41, l_65, l_67, l_71, l_84, l_120, l_127, l_128, l_130, l_160, l_162, l_200, l_255, l_256, l_999, l_1000, l_8000, l_9999, l_10000, l_8001, l_m1, t_k0, t_g0, t_p0, t_z0, t_k1, t_g1, t_p1, t_z1, t_k3, t_g3, t_p3, t_z3, t_k187, t_g187, t_p187, t_z187, t_k210, t_g210, t_p210, t_z210, t_k212, t_g212, t_p212, t_z212, t_k214, t_g214, t_p214, t_z214, t_r0_0, t_r0_1, t_r0_2, t_r0_4, t_r0_5, t_r0_6, t_r0_7, t_r1_0, t_r3_0, t_r187_0, t_r187_1, t_r187_2, t_r187_3, t_r210_0, t_r212_0, t_r214_1, t_r214_5, t_r214_6, t_r214_8, t_r214_10, t_a2, t_s2, t_a209, t_s209, t_a211, t_s211, t_a213, t_s213, t_a215, t_s215, t_a216, t_s216, t_a217, t_s217, t_a218, t_s218, t_a219, t_s219, t_a4, t_s4, zSt_sI, zSt_sF, zSt_zI, zSt_sJ, zSt_sD, zBo_0, zBo_1, hS, bd2_some, bdx_inl, bdx_inr, bdc_inl, bdc_inr, obd_some, hreg, ↓reduceIte]
  rw [if_neg c] at hreg
  have hf := c_found_L (b := b) (e := e) hs.1 hS hL hl24 hs.2.2.2.1 (xL s).length FU 0 0 (by omega) (by show (xL s).length < 4000; omega)
  rw [Nat.zero_add, List.drop_zero] at hf
  rw [show o_found s b e = (nI 0, nI (cnt b e (xL s))) from if_neg c]
  refine ⟨sJ S (z + 220) 0 (nI (cnt b e (xL s))).toInt64, ?_, zCl_sJ h, zCf_sJ (zCf_refl hS), fun _ => mJ_sJ⟩
  simp only [F_L_found, F_X5_found, l_0, l_1, l_2, l_3, l_4, l_5, l_6, l_7, l_8, l_9, l_10, l_11, l_12, l_13, l_14, l_15, l_16, l_17, l_18, l_19, l_20, l_21, l_24, l_25, l_26, l_27, l_31, l_33, l_41, l_65, l_67, l_71, l_84, l_120, l_127, l_128, l_130, l_160, l_162, l_200, l_255, l_256, l_999, l_1000, l_8000, l_9999, l_10000, l_8001, l_m1, t_k0, t_g0, t_p0, t_z0, t_k1, t_g1, t_p1, t_z1, t_k3, t_g3, t_p3, t_z3, t_k187, t_g187, t_p187, t_z187, t_k210, t_g210, t_p210, t_z210, t_k212, t_g212, t_p212, t_z212, t_k214, t_g214, t_p214, t_z214, t_r0_0, t_r0_1, t_r0_2, t_r0_4, t_r0_5, t_r0_6, t_r0_7, t_r1_0, t_r3_0, t_r187_0, t_r187_1, t_r187_2, t_r187_3, t_r210_0, t_r212_0, t_r214_1, t_r214_5, t_r214_6, t_r214_8, t_r214_10, t_a2, t_s2, t_a209, t_s209, t_a211, t_s211, t_a213, t_s213, t_a215, t_s215, t_a216, t_s216, t_a217, t_s217, t_a218, t_s218, t_a219, t_s219, t_a4, t_s4, zSt_sI, zSt_sF, zSt_zI, zSt_sJ, zSt_sD, zBo_0, zBo_1, hS, bd2_some, bdx_inl, bdx_inr, bdc_inl, bdc_inr, obd_some, hreg, hf, t_sJ hS]
end C4
