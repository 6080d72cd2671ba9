set_option maxRecDepth 20000
/-! The class's rows of bytes: put, type, written. -/
def zBR (S : Mem) (o : Nat) : Prop := ok S o 0 ∧ mR S o 0 = some (o + 1) ∧ ok S (o + 1) 7 ∧ mN S (o + 1) = 120
def zBy (S : Mem) (o : Nat) (t : List Nat) : Prop := mI S o 1 = nI t.length ∧ ∀ i b, t[i]? = some b → mI S (o + 1) i = nI b
section C5
variable {S S' S1 S2 : Mem} {z v w n lo hi o k : Nat} {x l : Int32} {r : Rc} {s : As} {y : Int64} {yd : UInt64} {t : List Nat}
theorem zBR_Fr (h : zFr lo hi S S') (hS : zBR S o) : zBR S' o := by rw [h.1]; exact hS
theorem yr_t (h : zSt z S) : zBR S (z + 210) := ⟨(t_ok h 210 0 0 rfl).1, t_rf h 210 0 211 (by decide +kernel), (t_ok h 211 7 120 rfl).1, (t_ok h 211 7 120 rfl).2⟩
theorem yr_o (h : zSt z S) : zBR S (z + 212) := ⟨(t_ok h 212 0 0 rfl).1, t_rf h 212 0 213 (by decide +kernel), (t_ok h 213 7 120 rfl).1, (t_ok h 213 7 120 rfl).2⟩
theorem yr_k (h : zBR S o) : pk 0 S o = some () := e_pk h.1
theorem yr_g {j : Nat} (h : zBR S o) : pgI 0 j S o = some (mI S o j) := e_pgI h.1
theorem yr_p {j : Nat} (h : zBR S o) : ppI 0 j S o x = some (sI S o j x) := e_ppI h.1
theorem yr_r (h : zBR S o) : pgR 0 0 S o = some (o + 1) := e_pgR h.1 h.2.1
theorem yr_a (h : zBR S o) (hk : k < 120) : paI S (o + 1) (nI k) = some (mI S (o + 1) k) := e_paI h.2.2.1 h.2.2.2 hk (by decide)
theorem yr_s (h : zBR S o) (hk : k < 120) : psI S (o + 1) (nI k) x = some (sI S (o + 1) k x) := e_psI h.2.2.1 h.2.2.2 hk (by decide)
theorem zBR_sI {a : Nat} : zBR (sI S a k x) o = zBR S o := propext ⟨fun h => h, fun h => h⟩
theorem zBy_Fr (h : zFr lo hi S S') (ho : o + 2 ≤ lo ∨ hi ≤ o) (hS : zBy S o t) : zBy S' o t := by
  unfold zBy
  rw [h.2 o (by omega), h.2 (o + 1) (by omega)]
  exact hS
theorem c_put {b : Nat} (h : zBR S o) (ht : zBy S o t) (hl : t.length < 120) : ∃ S', F_X0_put o (nI b) S = some S' ∧ zFr o (o + 2) S S' ∧ zBy S' o (t ++ [b]) := by
  have c : ¬ nI 120 ≤ nI t.length := nI_ge (by omega) (by omega)
  have n1 : (o = o + 1) = False := eq_false (by omega)
  refine ⟨sI (sI S (o + 1) t.length (nI b)) o 1 (nI (t.length + 1)), ?_, zFr_trans (zFr_sI (by omega) (by omega)) (zFr_sI (by omega) (by omega)), ?_⟩
  · simp only [F_X0_put, l_0, l_1, l_2, l_3, l_4, l_5, l_6, l_7, l_8, l_9, l_10, l_11, l_12, l_13, l_14, l_15, l_16, l_17, l_18, l_19, l_20, l_21, l_24, l_25, l_26, l_27, l_31, l_33, l_41, l_65, l_67, l_71, l_84, l_120, l_127, l_128, l_130, l_160, l_162, l_200, l_255, l_256, l_999, l_1000, l_8000, l_9999, l_10000, l_8001, l_m1, yr_g, yr_r, yr_s, yr_p, zBR_sI, h, ht.1, c, hl, bd2_some, bdx_inl, bdx_inr, bdc_inl, bdc_inr, obd_some, ↓reduceIte, mI_sI, n1, false_and, nI_add]
  · refine ⟨?_, ?_⟩
    · rw [mI_sI, if_pos ⟨rfl, rfl⟩, List.length_append]; rfl
    · intro i b' hi
      rw [mI_sI, if_neg (by omega), mI_sI]
      by_cases c : i = t.length
      · subst c
        rw [List.getElem?_append_right (Nat.le_refl _), Nat.sub_self] at hi
        cases hi
        rw [if_pos ⟨rfl, rfl⟩]
      · have hlt : i < t.length := by
          have := (List.getElem?_eq_some_iff.mp hi).1
          rw [List.length_append] at this
          simp only [List.length_cons, List.length_nil] at this
          omega
        rw [List.getElem?_append_left hlt] at hi
        rw [if_neg (by omega)]
        exact ht.2 i b' hi
theorem c_type_L {b : Int64} : ∀ (m fu : Nat) (S : Mem) (t : List Nat), zSt z S → zBy S (z + 210) t → t.length + m ≤ 120 → m ≤ 8 → m < fu →
    ∃ S', F_X5_type_L50 fu z b (nI m - nI 1) S = some (.inl (), S') ∧ zFr (z + 210) (z + 212) S S' ∧ zBy S' (z + 210) (t ++ (List.range m).map (fun i => by8 b (m - 1 - i))) := by
  intro m
  induction m with
  | zero =>
    intro fu S t h ht hl h8 hf
    obtain ⟨fu, rfl⟩ : ∃ f, fu = f + 1 := ⟨fu - 1, by omega⟩
    refine ⟨S, ?_, zFr_refl, ?_⟩
    · have c : nI 0 - nI 1 < nI 0 := by decide
      simp only [F_X5_type_L50, l_0, l_1, l_2, l_3, l_4, l_5, l_6, l_7, l_8, l_9, l_10, l_11, l_12, l_13, l_14, l_15, l_16, l_17, l_18, l_19, l_20, l_21, l_24, l_25, l_26, l_27, l_31, l_33, l_41, l_65, l_67, l_71, l_84, l_120, l_127, l_128, l_130, l_160, l_162, l_200, l_255, l_256, l_999, l_1000, l_8000, l_9999, l_10000, l_8001, l_m1, c, ↓reduceIte]
    · simpa using ht
  | succ m ih =>
    intro fu S t h ht hl h8 hf
    obtain ⟨fu, rfl⟩ : ∃ f, fu = f + 1 := ⟨fu - 1, by omega⟩
    have e1 : nI (m + 1) - nI 1 = nI m := nI_sub1 (by omega)
    have c : ¬ nI m < nI 0 := nI_nlt (by omega) (by omega)
    obtain ⟨S1, q1, q2, q3⟩ := c_put (b := by8 b m) (yr_t h) ht (by omega)
    have hS1 := zSt_Fr q2 h
    have e2 : nI m + m1 = nI m - nI 1 := by rw [Int32.sub_eq_add_neg]; rfl
    have e3 := c_by (b := b) (d := m) (by omega)
    obtain ⟨S2, r1, r2, r3⟩ := ih fu S1 (t ++ [by8 b m]) hS1 q3 (by rw [List.length_append]; simp only [List.length_cons, List.length_nil]; omega) (by omega) (by omega)
    refine ⟨S2, ?_, zFr_trans q2 r2, ?_⟩
    · simp only [F_X5_type_L50, l_0, l_1, l_2, l_3, l_4, l_5, l_6, l_7, l_8, l_9, l_10, l_11, l_12, l_13, l_14, l_15, l_16, l_17, l_18, l_19, l_20, l_21, l_24, l_25, l_26, l_27, l_31, l_33, l_41, l_65, l_67, l_71, l_84, l_120, l_127, l_128, l_130, l_160, l_162, l_200, l_255, l_256, l_999, l_1000, l_8000, l_9999, l_10000, l_8001, l_m1, t_k0, t_g0, t_p0, t_z0, t_k1, t_g1, t_p1, t_z1, t_k3, t_g3, t_p3, t_z3, t_k187, t_g187, t_p187, t_z187, t_k210, t_g210, t_p210, t_z210, t_k212, t_g212, t_p212, t_z212, t_k214, t_g214, t_p214, t_z214, t_r0_0, t_r0_1, t_r0_2, t_r0_4, t_r0_5, t_r0_6, t_r0_7, t_r1_0, t_r3_0, t_r187_0, t_r187_1, t_r187_2, t_r187_3, t_r210_0, t_r212_0, t_r214_1, t_r214_5, t_r214_6, t_r214_8, t_r214_10, t_a2, t_s2, t_a209, t_s209, t_a211, t_s211, t_a213, t_s213, t_a215, t_s215, t_a216, t_s216, t_a217, t_s217, t_a218, t_s218, t_a219, t_s219, t_a4, t_s4, zSt_sI, zSt_sF, zSt_zI, zSt_sJ, zSt_sD, zBo_0, zBo_1, h, e1, c, bd2_some, bdx_inl, bdx_inr, bdc_inl, bdc_inr, obd_some, ↓reduceIte, e3, q1, e2, r1]
    · have : t ++ (List.range (m + 1)).map (fun i => by8 b (m + 1 - 1 - i)) = t ++ [by8 b m] ++ (List.range m).map (fun i => by8 b (m - 1 - i)) := by
        rw [List.range_succ_eq_map, List.map_cons, List.map_map, List.append_assoc]
        congr 1
        show by8 b (m + 1 - 1 - 0) :: _ = by8 b m :: _
        congr 1
        apply List.map_congr_left
        intro i _
        show by8 b (m + 1 - 1 - (i + 1)) = by8 b (m - 1 - i)
        congr 1
        omega
      rw [this]
      exact r3
theorem zCl_typed {t' : List Nat} (h : zCl z s S) (hl : (xL s).length ≤ 24) (hF : zFr (z + 210) (z + 214) S S') (ht : zTy z S' t') : zCl z (wTyped s t') S' := by
  obtain ⟨hS, ⟨pp, hL⟩, hRf, hD, hT⟩ := h
  refine ⟨zSt_Fr hF hS, ⟨pp, zLv_of ?_ ?_ hl hL⟩, zRf_of (hF.2 _ (by omega)) (hF.2 _ (by omega)) hRf, zDf_of ?_ ?_ hD, ht⟩
  · rw [zFr_R hF]
  · intro a h1 h2; exact hF.2 a (by omega)
  · rw [hF.2 z (by omega)]
  · intro a h1 h2; exact hF.2 a (by omega)
theorem C_type {b : Int64} {n : Int32} (hs : xOk s) (h : zCl z s S) : ∃ S', F_L_type z b n S = some ((o_type s b n).1, S') ∧ zCl z (o_type s b n).2 S' ∧ zCf z S S' := by
  obtain ⟨hS, ⟨pp, hL⟩, hR, hD, hT⟩ := id h
  by_cases c1 : n < nI 1
  · rw [show o_type s b n = (nI 1, s) from if_pos (Or.inl c1)]
    refine ⟨S, ?_, h, zCf_refl hS⟩
    simp only [F_L_type, F_X5_type, l_0, l_1, l_2, l_3, l_4, l_5, l_6, l_7, l_8, l_9, l_10, l_11, l_12, l_13, l_14, l_15, l_16, l_17, l_18, l_19, l_20, l_21, l_24, l_25, l_26, l_27, l_31, l_33, l_41, l_65, l_67, l_71, l_84, l_120, l_127, l_128, l_130, l_160, l_162, l_200, l_255, l_256, l_999, l_1000, l_8000, l_9999, l_10000, l_8001, l_m1, t_k0, t_g0, t_p0, t_z0, t_k1, t_g1, t_p1, t_z1, t_k3, t_g3, t_p3, t_z3, t_k187, t_g187, t_p187, t_z187, t_k210, t_g210, t_p210, t_z210, t_k212, t_g212, t_p212, t_z212, t_k214, t_g214, t_p214, t_z214, t_r0_0, t_r0_1, t_r0_2, t_r0_4, t_r0_5, t_r0_6, t_r0_7, t_r1_0, t_r3_0, t_r187_0, t_r187_1, t_r187_2, t_r187_3, t_r210_0, t_r212_0, t_r214_1, t_r214_5, t_r214_6, t_r214_8, t_r214_10, t_a2, t_s2, t_a209, t_s209, t_a211, t_s211, t_a213, t_s213, t_a215, t_s215, t_a216, t_s216, t_a217, t_s217, t_a218, t_s218, t_a219, t_s219, t_a4, t_s4, zSt_sI, zSt_sF, zSt_zI, zSt_sJ, zSt_sD, zBo_0, zBo_1, hS, bd2_some, bdx_inl, bdx_inr, bdc_inl, bdc_inr, obd_some, c1, ↓reduceIte]
  by_cases c2 : nI 8 < n
  · have c2' : ¬ n ≤ nI 8 := Int32.not_le.mpr c2
    rw [show o_type s b n = (nI 1, s) from if_pos (Or.inr c2)]
    refine ⟨S, ?_, h, zCf_refl hS⟩
    simp only [F_L_type, F_X5_type, l_0, l_1, l_2, l_3, l_4, l_5, l_6, l_7, l_8, l_9, l_10, l_11, l_12, l_13, l_14, l_15, l_16, l_17, l_18, l_19, l_20, l_21, l_24, l_25, l_26, l_27, l_31, l_33, l_41, l_65, l_67, l_71, l_84, l_120, l_127, l_128, l_130, l_160, l_162, l_200, l_255, l_256, l_999, l_1000, l_8000, l_9999, l_10000, l_8001, l_m1, t_k0, t_g0, t_p0, t_z0, t_k1, t_g1, t_p1, t_z1, t_k3, t_g3, t_p3, t_z3, t_k187, t_g187, t_p187, t_z187, t_k210, t_g210, t_p210, t_z210, t_k212, t_g212, t_p212, t_z212, t_k214, t_g214, t_p214, t_z214, t_r0_0, t_r0_1, t_r0_2, t_r0_4, t_r0_5, t_r0_6, t_r0_7, t_r1_0, t_r3_0, t_r187_0, t_r187_1, t_r187_2, t_r187_3, t_r210_0, t_r212_0, t_r214_1, t_r214_5, t_r214_6, t_r214_8, t_r214_10, t_a2, t_s2, t_a209, t_s209, t_a211, t_s211, t_a213, t_s213, t_a215, t_s215, t_a216, t_s216, t_a217, t_s217, t_a218, t_s218, t_a219, t_s219, t_a4, t_s4, zSt_sI, zSt_sF, zSt_zI, zSt_sJ, zSt_sD, zBo_0, zBo_1, hS, bd2_some, bdx_inl, bdx_inr, bdc_inl, bdc_inr, obd_some, c1, c2', ↓reduceIte]
  have c2' : n ≤ nI 8 := Int32.not_lt.mp c2
  have c12 : ¬ (n < nI 1 ∨ nI 8 < n) := fun q => q.elim c1 c2
  obtain ⟨nn, rfl, a1, a2⟩ := in_of (by omega) c1 c2 (by omega)
  have t1 : tn (nI nn) = nn := tn_nI (by omega)
  have ht := hs.2.2.2.2.2.1
  by_cases c3 : 120 < (xT s).length + nn
  · have c3' : ¬ nI ((xT s).length + nn) ≤ nI 120 := nI_ge (by omega) (by omega)
    rw [show o_type s b (nI nn) = (nI 2, s) from by unfold o_type; rw [if_neg c12, t1, if_pos c3]]
    refine ⟨S, ?_, h, zCf_refl hS⟩
    simp only [F_L_type, F_X5_type, l_0, l_1, l_2, l_3, l_4, l_5, l_6, l_7, l_8, l_9, l_10, l_11, l_12, l_13, l_14, l_15, l_16, l_17, l_18, l_19, l_20, l_21, l_24, l_25, l_26, l_27, l_31, l_33, l_41, l_65, l_67, l_71, l_84, l_120, l_127, l_128, l_130, l_160, l_162, l_200, l_255, l_256, l_999, l_1000, l_8000, l_9999, l_10000, l_8001, l_m1, t_k0, t_g0, t_p0, t_z0, t_k1, t_g1, t_p1, t_z1, t_k3, t_g3, t_p3, t_z3, t_k187, t_g187, t_p187, t_z187, t_k210, t_g210, t_p210, t_z210, t_k212, t_g212, t_p212, t_z212, t_k214, t_g214, t_p214, t_z214, t_r0_0, t_r0_1, t_r0_2, t_r0_4, t_r0_5, t_r0_6, t_r0_7, t_r1_0, t_r3_0, t_r187_0, t_r187_1, t_r187_2, t_r187_3, t_r210_0, t_r212_0, t_r214_1, t_r214_5, t_r214_6, t_r214_8, t_r214_10, t_a2, t_s2, t_a209, t_s209, t_a211, t_s211, t_a213, t_s213, t_a215, t_s215, t_a216, t_s216, t_a217, t_s217, t_a218, t_s218, t_a219, t_s219, t_a4, t_s4, zSt_sI, zSt_sF, zSt_zI, zSt_sJ, zSt_sD, zBo_0, zBo_1, hS, bd2_some, bdx_inl, bdx_inr, bdc_inl, bdc_inr, obd_some, c1, c2', hT.1, nI_add, c3', ↓reduceIte, String.reduceEq]
  have c3' : nI ((xT s).length + nn) ≤ nI 120 := nI_le (by omega) (by omega)
  obtain ⟨S1, q1, q2, q3⟩ := c_type_L (b := b) nn FU S (xT s) hS hT (by omega) a2 (by show nn < 4000; omega)
  rw [show o_type s b (nI nn) = (nI 0, wTyped s (xT s ++ (List.range nn).map (fun i => by8 b (nn - 1 - i)))) from by unfold o_type; rw [if_neg c12, t1, if_neg c3]]
  refine ⟨S1, ?_, zCl_typed h hs.2.2.2.2.1 (zFr_mono q2 (by omega) (by omega)) q3, zCf_Fr hS q2 (by omega)⟩
  simp only [F_L_type, F_X5_type, l_0, l_1, l_2, l_3, l_4, l_5, l_6, l_7, l_8, l_9, l_10, l_11, l_12, l_13, l_14, l_15, l_16, l_17, l_18, l_19, l_20, l_21, l_24, l_25, l_26, l_27, l_31, l_33, l_41, l_65, l_67, l_71, l_84, l_120, l_127, l_128, l_130, l_160, l_162, l_200, l_255, l_256, l_999, l_1000, l_8000, l_9999, l_10000, l_8001, l_m1, t_k0, t_g0, t_p0, t_z0, t_k1, t_g1, t_p1, t_z1, t_k3, t_g3, t_p3, t_z3, t_k187, t_g187, t_p187, t_z187, t_k210, t_g210, t_p210, t_z210, t_k212, t_g212, t_p212, t_z212, t_k214, t_g214, t_p214, t_z214, t_r0_0, t_r0_1, t_r0_2, t_r0_4, t_r0_5, t_r0_6, t_r0_7, t_r1_0, t_r3_0, t_r187_0, t_r187_1, t_r187_2, t_r187_3, t_r210_0, t_r212_0, t_r214_1, t_r214_5, t_r214_6, t_r214_8, t_r214_10, t_a2, t_s2, t_a209, t_s209, t_a211, t_s211, t_a213, t_s213, t_a215, t_s215, t_a216, t_s216, t_a217, t_s217, t_a218, t_s218, t_a219, t_s219, t_a4, t_s4, zSt_sI, zSt_sF, zSt_zI, zSt_sJ, zSt_sD, zBo_0, zBo_1, hS, bd2_some, bdx_inl, bdx_inr, bdc_inl, bdc_inr, obd_some, c1, c2', hT.1, nI_add, c3', ↓reduceIte, q1]
theorem c_putN2 {a : Nat} (h : zBR S o) (ht : zBy S o t) (hl : t.length + 2 ≤ 120) (ha : a < 65536) : ∃ S', F_X0_putNumber o (nI a) (nI 2) S = some S' ∧ zFr o (o + 2) S S' ∧ zBy S' o (t ++ [a % 256, a / 256]) := by
  obtain ⟨S1, q1, q2, q3⟩ := c_put (b := a % 256) h ht (by omega)
  obtain ⟨S2, r1, r2, r3⟩ := c_put (b := a / 256) (zBR_Fr q2 h) q3 (by rw [List.length_append]; simp only [List.length_cons, List.length_nil]; omega)
  refine ⟨S2, ?_, zFr_trans q2 r2, ?_⟩
  · have e1 : nI a >>> (nI 8 &&& nI 31) = nI (a / 256) := by rw [b_31 (by omega), b_shr (by omega) (by omega)]
    simp only [F_X0_putNumber, l_0, l_1, l_2, l_3, l_4, l_5, l_6, l_7, l_8, l_9, l_10, l_11, l_12, l_13, l_14, l_15, l_16, l_17, l_18, l_19, l_20, l_21, l_24, l_25, l_26, l_27, l_31, l_33, l_41, l_65, l_67, l_71, l_84, l_120, l_127, l_128, l_130, l_160, l_162, l_200, l_255, l_256, l_999, l_1000, l_8000, l_9999, l_10000, l_8001, l_m1, yr_k h, yr_k (zBR_Fr q2 h), b_and255, e1, q1, r1, bd2_some, bdx_inl, bdx_inr, bdc_inl, bdc_inr, obd_some, ↓reduceIte]
  · rw [List.append_assoc] at r3; exact r3
theorem c_putN1 {a : Nat} (h : zBR S o) (ht : zBy S o t) (hl : t.length + 1 ≤ 120) (ha : a ≤ 127) : ∃ S', F_X0_putNumber o (nI a) (nI 1) S = some S' ∧ zFr o (o + 2) S S' ∧ zBy S' o (t ++ [a]) := by
  obtain ⟨S1, q1, q2, q3⟩ := c_put (b := a) h ht (by omega)
  refine ⟨S1, ?_, q2, q3⟩
  have e0 : a % 256 = a := by omega
  have e1 : ¬ nI 1 = nI 2 := by decide
  simp only [F_X0_putNumber, l_0, l_1, l_2, l_3, l_4, l_5, l_6, l_7, l_8, l_9, l_10, l_11, l_12, l_13, l_14, l_15, l_16, l_17, l_18, l_19, l_20, l_21, l_24, l_25, l_26, l_27, l_31, l_33, l_41, l_65, l_67, l_71, l_84, l_120, l_127, l_128, l_130, l_160, l_162, l_200, l_255, l_256, l_999, l_1000, l_8000, l_9999, l_10000, l_8001, l_m1, yr_k h, b_and255, e0, e1, q1, bd2_some, bdx_inl, bdx_inr, bdc_inl, bdc_inr, obd_some, ↓reduceIte]
theorem ptL_n : ∀ k, k < 4 → ptL (nI k) = some (nI (ltr k)) := by
  intro k hk
  rcases (show k = 0 ∨ k = 1 ∨ k = 2 ∨ k = 3 by omega) with e | e | e | e <;> subst e <;> decide
theorem c_putA_L {b ln : Nat} (hl8 : ln ≤ 8) (hb : b < 2147483648) : ∀ (m fu j : Nat) (S : Mem) (t : List Nat), zBR S o → zBy S o t → t.length + m ≤ 120 → j + m = ln → m < fu →
    ∃ S', F_X0_putAllele_L13 fu o (nI b) (nI ln) (nI j) S = some S' ∧ zFr o (o + 2) S S' ∧ zBy S' o (t ++ (List.range' j m).map (fun i => ltr (b / 4 ^ (ln - 1 - i) % 4))) := by
  intro m
  induction m with
  | zero =>
    intro fu j S t h ht hl hj hf
    obtain ⟨fu, rfl⟩ : ∃ f, fu = f + 1 := ⟨fu - 1, by omega⟩
    have h1 : nI ln ≤ nI j := nI_le (by omega) (by omega)
    refine ⟨S, ?_, zFr_refl, ?_⟩
    · simp only [F_X0_putAllele_L13, h1, ↓reduceIte]
    · simpa using ht
  | succ m ih =>
    intro fu j S t h ht hl hj hf
    obtain ⟨fu, rfl⟩ : ∃ f, fu = f + 1 := ⟨fu - 1, by omega⟩
    have h1 : ¬ nI ln ≤ nI j := nI_ge (by omega) (by omega)
    have hb' := c_baseOf (b := (nI b).toInt64) (n := ln) (i := j) (d := ln - 1 - j) (S := S) (by omega) (by omega) (by omega)
    rw [dg_nI hb] at hb'
    have hp := ptL_n (b / 4 ^ (ln - 1 - j) % 4) (Nat.mod_lt _ (by omega))
    obtain ⟨S1, q1, q2, q3⟩ := c_put (b := ltr (b / 4 ^ (ln - 1 - j) % 4)) h ht (by omega)
    obtain ⟨S2, r1, r2, r3⟩ := ih fu (j + 1) S1 _ (zBR_Fr q2 h) q3 (by rw [List.length_append]; simp only [List.length_cons, List.length_nil]; omega) (by omega) (by omega)
    refine ⟨S2, ?_, zFr_trans q2 r2, ?_⟩
    · simp only [F_X0_putAllele_L13, l_0, l_1, l_2, l_3, l_4, l_5, l_6, l_7, l_8, l_9, l_10, l_11, l_12, l_13, l_14, l_15, l_16, l_17, l_18, l_19, l_20, l_21, l_24, l_25, l_26, l_27, l_31, l_33, l_41, l_65, l_67, l_71, l_84, l_120, l_127, l_128, l_130, l_160, l_162, l_200, l_255, l_256, l_999, l_1000, l_8000, l_9999, l_10000, l_8001, l_m1, h1, hb', hp, yr_k h, q1, bd2_some, bdx_inl, bdx_inr, bdc_inl, bdc_inr, obd_some, ↓reduceIte, nI_add, r1]
    · rw [List.range'_succ, List.map_cons]
      rw [List.append_assoc] at r3
      exact r3
theorem bAl_len (l b : Nat) : (bAl l b).length = 1 + l := by
  unfold bAl
  simp
  omega
theorem c_putA {b ln : Nat} (h : zBR S o) (ht : zBy S o t) (hl : t.length + 9 ≤ 120) (hl8 : ln ≤ 8) (hb : b < 2147483648) : ∃ S', F_X0_putAllele o (nI b) (nI ln) S = some S' ∧ zFr o (o + 2) S S' ∧ zBy S' o (t ++ bAl ln b) := by
  obtain ⟨S1, q1, q2, q3⟩ := c_put (b := 16 * ln + 7) h ht (by omega)
  obtain ⟨S2, r1, r2, r3⟩ := c_putA_L hl8 hb ln FU 0 S1 _ (zBR_Fr q2 h) q3 (by rw [List.length_append]; simp only [List.length_cons, List.length_nil]; omega) (by omega) (by show ln < 4000; omega)
  refine ⟨S2, ?_, zFr_trans q2 r2, ?_⟩
  · simp only [F_X0_putAllele, l_0, l_1, l_2, l_3, l_4, l_5, l_6, l_7, l_8, l_9, l_10, l_11, l_12, l_13, l_14, l_15, l_16, l_17, l_18, l_19, l_20, l_21, l_24, l_25, l_26, l_27, l_31, l_33, l_41, l_65, l_67, l_71, l_84, l_120, l_127, l_128, l_130, l_160, l_162, l_200, l_255, l_256, l_999, l_1000, l_8000, l_9999, l_10000, l_8001, l_m1, yr_k h, nI_mul, nI_add, q1, bd2_some, bdx_inl, bdx_inr, bdc_inl, bdc_inr, obd_some, r1]
  · rw [List.append_assoc] at r3
    unfold bAl
    rw [List.range_eq_range']
    exact r3
def wdt (g : Nat → Nat) (n : Nat) : Nat := if bWide g n = true then 2 else 1
theorem bWide_s (g : Nat → Nat) (n : Nat) : bWide g (n + 1) = true ↔ bWide g n = true ∨ 127 < g n := by
  unfold bWide
  rw [decide_eq_true_iff, decide_eq_true_iff]
  constructor
  · rintro ⟨i, h1, h2⟩
    by_cases c : i = n
    · subst c; exact Or.inr h2
    · exact Or.inl ⟨i, by omega, h2⟩
  · rintro (⟨i, h1, h2⟩ | h)
    · exact ⟨i, by omega, h2⟩
    · exact ⟨n, by omega, h⟩
theorem bWide_0 (g : Nat → Nat) : wdt g 0 = 1 := by
  unfold wdt bWide
  rw [if_neg]
  simp
theorem c_putW_L {g : Nat → Nat} {a f n N : Nat} (hA : ok S a 7) (hN : mN S a = N) (hN2 : N < 2147483648) (hfn : f + n ≤ N) (hg : ∀ i, i < n → mI S a (f + i) = nI (g i)) (hb : ∀ i, i < n → g i < 65536) (h : zBR S o) :
    ∀ (m fu j : Nat), j + m = n → m < fu → F_X0_putNumbers_L6 fu o a (nI f) (nI n) (nI (wdt g j)) (nI (f + j)) S = (F_X0_put o (nI (16 * n + wdt g n)) S).bind fun S9 => F_X0_putNumbers_L46 FU o a (nI f) (nI n) (nI (wdt g n)) (nI f) S9 := by
  intro m
  induction m with
  | zero =>
    intro fu j hj hf
    obtain ⟨fu, rfl⟩ : ∃ f, fu = f + 1 := ⟨fu - 1, by omega⟩
    have e : j = n := by omega
    subst e
    have h1 : nI (f + j) ≤ nI (f + j) := nI_le (Nat.le_refl _) (by omega)
    simp only [F_X0_putNumbers_L6, l_0, l_1, l_2, l_3, l_4, l_5, l_6, l_7, l_8, l_9, l_10, l_11, l_12, l_13, l_14, l_15, l_16, l_17, l_18, l_19, l_20, l_21, l_24, l_25, l_26, l_27, l_31, l_33, l_41, l_65, l_67, l_71, l_84, l_120, l_127, l_128, l_130, l_160, l_162, l_200, l_255, l_256, l_999, l_1000, l_8000, l_9999, l_10000, l_8001, l_m1, nI_add, h1, yr_k h, bd2_some, bdx_inl, bdx_inr, bdc_inl, bdc_inr, obd_some, ↓reduceIte, nI_mul]
  | succ m ih =>
    intro fu j hj hf
    obtain ⟨fu, rfl⟩ : ∃ f, fu = f + 1 := ⟨fu - 1, by omega⟩
    have h1 : ¬ nI (f + n) ≤ nI (f + j) := nI_ge (by omega) (by omega)
    have e1 := e_paI (k := f + j) hA hN (by omega) hN2
    have e2 := hg j (by omega)
    have e3 := hb j (by omega)
    have ih' := ih fu (j + 1) (by omega) (by omega)
    by_cases c : g j ≤ 127
    · have c' : nI (g j) ≤ nI 127 := nI_le c (by omega)
      have e4 : wdt g (j + 1) = wdt g j := by
        unfold wdt
        by_cases c3 : bWide g j = true
        · rw [if_pos c3, if_pos ((bWide_s g j).mpr (Or.inl c3))]
        · rw [if_neg c3, if_neg (fun q => ((bWide_s g j).mp q).elim c3 (by omega))]
      rw [e4] at ih'
      simp only [F_X0_putNumbers_L6, F_X0_putNumbers_J26, l_0, l_1, l_2, l_3, l_4, l_5, l_6, l_7, l_8, l_9, l_10, l_11, l_12, l_13, l_14, l_15, l_16, l_17, l_18, l_19, l_20, l_21, l_24, l_25, l_26, l_27, l_31, l_33, l_41, l_65, l_67, l_71, l_84, l_120, l_127, l_128, l_130, l_160, l_162, l_200, l_255, l_256, l_999, l_1000, l_8000, l_9999, l_10000, l_8001, l_m1, nI_add, h1, e1, e2, c', bd2_some, bdx_inl, bdx_inr, bdc_inl, bdc_inr, obd_some, ↓reduceIte]
      exact ih'
    · have c' : ¬ nI (g j) ≤ nI 127 := nI_ge (by omega) (by omega)
      have e4 : wdt g (j + 1) = 2 := by
        unfold wdt
        rw [if_pos ((bWide_s g j).mpr (Or.inr (by omega)))]
      rw [e4] at ih'
      simp only [F_X0_putNumbers_L6, F_X0_putNumbers_J26, l_0, l_1, l_2, l_3, l_4, l_5, l_6, l_7, l_8, l_9, l_10, l_11, l_12, l_13, l_14, l_15, l_16, l_17, l_18, l_19, l_20, l_21, l_24, l_25, l_26, l_27, l_31, l_33, l_41, l_65, l_67, l_71, l_84, l_120, l_127, l_128, l_130, l_160, l_162, l_200, l_255, l_256, l_999, l_1000, l_8000, l_9999, l_10000, l_8001, l_m1, nI_add, h1, e1, e2, c', bd2_some, bdx_inl, bdx_inr, bdc_inl, bdc_inr, obd_some, ↓reduceIte]
      exact ih'
theorem c_putV_L {g : Nat → Nat} {a f n N : Nat} (hN2 : N < 2147483648) (hfn : f + n ≤ N) (ha : a < o ∨ o + 2 ≤ a) (hb : ∀ i, i < n → g i < 65536) :
    ∀ (m fu j : Nat) (S : Mem) (t : List Nat), ok S a 7 → mN S a = N → (∀ i, i < n → mI S a (f + i) = nI (g i)) → zBR S o → zBy S o t → t.length + 2 * m ≤ 120 → j + m = n → m < fu →
    ∃ S', F_X0_putNumbers_L46 fu o a (nI f) (nI n) (nI (wdt g n)) (nI (f + j)) S = some S' ∧ zFr o (o + 2) S S' ∧ zBy S' o (t ++ (List.range' j m).flatMap (fun i => if bWide g n = true then [g i % 256, g i / 256] else [g i])) := by
  intro m
  induction m with
  | zero =>
    intro fu j S t hA hN hg h ht hl hj hf
    obtain ⟨fu, rfl⟩ : ∃ f, fu = f + 1 := ⟨fu - 1, by omega⟩
    have h1 : nI (f + n) ≤ nI (f + j) := nI_le (by omega) (by omega)
    refine ⟨S, ?_, zFr_refl, ?_⟩
    · simp only [F_X0_putNumbers_L46, nI_add, h1, ↓reduceIte]
    · simpa using ht
  | succ m ih =>
    intro fu j S t hA hN hg h ht hl hj hf
    obtain ⟨fu, rfl⟩ : ∃ f, fu = f + 1 := ⟨fu - 1, by omega⟩
    have h1 : ¬ nI (f + n) ≤ nI (f + j) := nI_ge (by omega) (by omega)
    have e1 := e_paI (k := f + j) hA hN (by omega) hN2
    have e2 := hg j (by omega)
    have e3 := hb j (by omega)
    have key : ∃ S1, F_X0_putNumber o (nI (g j)) (nI (wdt g n)) S = some S1 ∧ zFr o (o + 2) S S1 ∧ zBy S1 o (t ++ (if bWide g n = true then [g j % 256, g j / 256] else [g j])) := by
      by_cases c : bWide g n = true
      · have : wdt g n = 2 := by unfold wdt; rw [if_pos c]
        rw [this, if_pos c]
        exact c_putN2 h ht (by omega) e3
      · have : wdt g n = 1 := by unfold wdt; rw [if_neg c]
        rw [this, if_neg c]
        refine c_putN1 h ht (by omega) ?_
        refine Nat.not_lt.mp (fun q => c ?_)
        unfold bWide
        rw [decide_eq_true_iff]
        exact ⟨j, by omega, q⟩
    obtain ⟨S1, q1, q2, q3⟩ := key
    have len2 : (if bWide g n = true then [g j % 256, g j / 256] else [g j]).length ≤ 2 := by split <;> simp
    obtain ⟨S2, r1, r2, r3⟩ := ih fu (j + 1) S1 _ (by rw [q2.1]; exact hA) (by rw [zFr_N q2]; exact hN) (fun i hi => by rw [q2.2 a (by omega)]; exact hg i hi) (zBR_Fr q2 h) q3 (by rw [List.length_append]; omega) (by omega) (by omega)
    refine ⟨S2, ?_, zFr_trans q2 r2, ?_⟩
    · simp only [F_X0_putNumbers_L46, l_0, l_1, l_2, l_3, l_4, l_5, l_6, l_7, l_8, l_9, l_10, l_11, l_12, l_13, l_14, l_15, l_16, l_17, l_18, l_19, l_20, l_21, l_24, l_25, l_26, l_27, l_31, l_33, l_41, l_65, l_67, l_71, l_84, l_120, l_127, l_128, l_130, l_160, l_162, l_200, l_255, l_256, l_999, l_1000, l_8000, l_9999, l_10000, l_8001, l_m1, nI_add, h1, e1, e2, yr_k h, q1, bd2_some, bdx_inl, bdx_inr, bdc_inl, bdc_inr, obd_some, ↓reduceIte]
      exact r1
    · rw [List.range'_succ, List.flatMap_cons, ← List.append_assoc]
      exact r3
theorem bRow_len (g : Nat → Nat) (n : Nat) : (bRow g n).length ≤ 1 + 2 * n := by
  unfold bRow
  rw [List.length_cons, List.length_flatMap]
  have : ∀ l : List Nat, (l.map (fun i => (if bWide g n = true then [g i % 256, g i / 256] else [g i]).length)).sum ≤ 2 * l.length := by
    intro l
    induction l with
    | nil => simp
    | cons x xs ih =>
      rw [List.map_cons, List.sum_cons, List.length_cons]
      have : (if bWide g n = true then [g x % 256, g x / 256] else [g x]).length ≤ 2 := by split <;> simp
      omega
  have := this (List.range n)
  rw [List.length_range] at this
  omega
theorem c_putR {g : Nat → Nat} {a f n N : Nat} (hA : ok S a 7) (hN : mN S a = N) (hN2 : N < 2147483648) (hfn : f + n ≤ N) (ha : a < o ∨ o + 2 ≤ a) (hg : ∀ i, i < n → mI S a (f + i) = nI (g i)) (hb : ∀ i, i < n → g i < 65536) (h : zBR S o) (ht : zBy S o t) (hl : t.length + 1 + 2 * n ≤ 120) :
    ∃ S', F_X0_putNumbers o a (nI f) (nI n) S = some S' ∧ zFr o (o + 2) S S' ∧ zBy S' o (t ++ bRow g n) := by
  have e := c_putW_L hA hN hN2 hfn hg hb h n FU 0 (by omega) (by show n < 4000; omega)
  rw [bWide_0, Nat.add_zero] at e
  obtain ⟨S1, q1, q2, q3⟩ := c_put (b := 16 * n + wdt g n) h ht (by omega)
  obtain ⟨S2, r1, r2, r3⟩ := c_putV_L hN2 hfn ha hb n FU 0 S1 _ (by rw [q2.1]; exact hA) (by rw [zFr_N q2]; exact hN) (fun i hi => by rw [q2.2 a (by omega)]; exact hg i hi) (zBR_Fr q2 h) q3 (by rw [List.length_append]; simp only [List.length_cons, List.length_nil]; omega) (by omega) (by show n < 4000; omega)
  refine ⟨S2, ?_, zFr_trans q2 r2, ?_⟩
  · unfold F_X0_putNumbers
    simp only [l_0, l_1, l_2, l_3, l_4, l_5, l_6, l_7, l_8, l_9, l_10, l_11, l_12, l_13, l_14, l_15, l_16, l_17, l_18, l_19, l_20, l_21, l_24, l_25, l_26, l_27, l_31, l_33, l_41, l_65, l_67, l_71, l_84, l_120, l_127, l_128, l_130, l_160, l_162, l_200, l_255, l_256, l_999, l_1000, l_8000, l_9999, l_10000, l_8001, l_m1]
    rw [e, q1]
    exact r1
  · rw [List.append_assoc] at r3
    unfold bRow
    rw [List.range_eq_range']
    exact r3
end C5
