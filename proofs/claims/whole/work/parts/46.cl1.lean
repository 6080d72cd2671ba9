set_option maxRecDepth 20000
/-! The class's calls: drafting. -/
section C1
variable {S S' S1 S2 : Mem} {z v w n lo hi : Nat} {x b l : Int32} {r : Rc} {s : As}
theorem zLv_of {p : Nat → Nat} {ls : List Rc} (hR : mR S' (z + 4) = mR S (z + 4)) (hI : ∀ a, z + 3 ≤ a → a < z + 173 → mI S' a = mI S a) (h2 : ls.length ≤ 24) (h : zLv z S p ls) : zLv z S' p ls := by
  refine ⟨⟨fun i hi => ?_, h.1.2⟩, ?_, fun i r hi => ?_⟩
  · rw [hR]; exact h.1.1 i hi
  · rw [hI _ (by omega) (by omega)]; exact h.2.1
  · have hl : i < ls.length := (List.getElem?_eq_some_iff.mp hi).1
    have := (h.1.1 i (by omega)).1
    exact zCR_of (fun t ht => hI _ (by omega) (by omega)) (h.2.2 i r hi)
theorem zRf_of {p : Nat} {rf : Nat → Nat} (h1 : mI S' (z + 1) = mI S (z + 1)) (h2 : mI S' (z + 2) = mI S (z + 2)) (h : zRf z S p rf) : zRf z S' p rf := by
  unfold zRf; rw [h1, h2]; exact h
theorem zDf_of {d : Bool} (h1 : mI S' z 3 = mI S z 3) (h2 : ∀ a, z + 173 ≤ a → a < z + 180 → mI S' a = mI S a) (h : zDf z S d r) : zDf z S' d r := by
  refine ⟨h1.trans h.1, fun hd => ?_⟩
  rw [h2 (z + 173 + 6) (by omega) (by omega)]
  exact ⟨zCR_of (fun t ht => h2 _ (by omega) (by omega)) (h.2 hd).1, (h.2 hd).2⟩
theorem zTy_of {t : List Nat} (h1 : mI S' (z + 210) 1 = mI S (z + 210) 1) (h2 : mI S' (z + 211) = mI S (z + 211)) (h : zTy z S t) : zTy z S' t := by
  unfold zTy; rw [h1, h2]; exact h
/-- what a call of the class leaves alone -/
def zCf (z : Nat) (S S' : Mem) : Prop := zSt z S' ∧ ∀ a, z + 214 ≤ a → mI S' a = mI S a
theorem zCf_refl (h : zSt z S) : zCf z S S := ⟨h, fun _ _ => rfl⟩
theorem zCf_trans (h : zCf z S S1) (h' : zCf z S1 S2) : zCf z S S2 := ⟨h'.1, fun a ha => (h'.2 a ha).trans (h.2 a ha)⟩
theorem zCf_Fr (hS : zSt z S) (h : zFr lo hi S S') (hh : hi ≤ z + 214) : zCf z S S' := ⟨zSt_Fr h hS, fun a ha => h.2 a (by omega)⟩
theorem v_d (h : zSt z S) : zVar S (z + 173) := t_var h (by decide +kernel)
theorem v_sc (h : zSt z S) : zVar S (z + 180) := t_var h (by decide +kernel)
theorem v_j1 (h : zSt z S) : zVar S (z + 188) := t_var h (by decide +kernel)
theorem v_j2 (h : zSt z S) : zVar S (z + 195) := t_var h (by decide +kernel)
theorem v_jj (h : zSt z S) : zVar S (z + 202) := t_var h (by decide +kernel)
theorem rn_lt {rf : Nat → Nat} (h : ∀ i, rf i < 4) (p : Nat) : ∀ l, rn rf p l < 4 ^ l := by
  intro l
  induction l with
  | zero => simp [rn]
  | succ l ih =>
    have := h (p + l)
    rw [rn, p4_s]
    omega
theorem c_packed_L {p q ln : Nat} {rf : Nat → Nat} (h : zSt z S) (hR : zRf z S q rf) (h4 : ∀ i, rf i < 4) (hq : q ≤ 160) (hp : 1 ≤ p) (hpl : p + ln ≤ q + 1) (hl : ln ≤ 8) :
    ∀ (m fu j : Nat), j + m = ln → m < fu → F_X3_packed_L5 fu (z + 1) (nI p) (nI ln) (nI (rn rf p j)) (nI j) S = some (nI (rn rf p ln), S) := by
  intro m
  induction m with
  | zero =>
    intro fu j hj hf
    obtain ⟨fu, rfl⟩ : ∃ f, fu = f + 1 := ⟨fu - 1, by omega⟩
    have h1 : nI ln ≤ nI j := nI_le (by omega) (by omega)
    have e : j = ln := by omega
    subst e
    simp only [F_X3_packed_L5, h1, ↓reduceIte]
  | succ m ih =>
    intro fu j hj hf
    obtain ⟨fu, rfl⟩ : ∃ f, fu = f + 1 := ⟨fu - 1, by omega⟩
    have h1 : ¬ nI ln ≤ nI j := nI_ge (by omega) (by omega)
    have h2 : p - 1 + j < 160 := by omega
    have e1 : nI p - nI 1 + nI j = nI (p - 1 + j) := by rw [nI_sub1 hp, nI_add]
    have e2 := hR.2 (p - 1 + j) (by omega)
    rw [show p - 1 + j + 1 = p + j by omega] at e2
    have e3 : (nI (rn rf p j) <<< (nI 2 &&& nI 31)) ||| nI (rf (p + j)) = nI (rn rf p (j + 1)) := by
      rw [b_31 (by omega), b_shl (by omega), b_orAdd (show rf (p + j) < 2 ^ 2 from h4 _)]
      congr 1
      rw [rn]
      omega
    simp only [F_X3_packed_L5, l_0, l_1, l_2, l_3, l_4, l_5, l_6, l_7, l_8, l_9, l_10, l_11, l_12, l_13, l_14, l_15, l_16, l_17, l_18, l_19, l_20, l_21, l_24, l_25, l_26, l_27, l_31, l_33, l_41, l_65, l_67, l_71, l_84, l_120, l_127, l_128, l_130, l_160, l_162, l_200, l_255, l_256, l_999, l_1000, l_8000, l_9999, l_10000, l_8001, l_m1, t_k0, t_g0, t_p0, t_z0, t_k1, t_g1, t_p1, t_z1, t_k3, t_g3, t_p3, t_z3, t_k187, t_g187, t_p187, t_z187, t_k210, t_g210, t_p210, t_z210, t_k212, t_g212, t_p212, t_z212, t_k214, t_g214, t_p214, t_z214, t_r0_0, t_r0_1, t_r0_2, t_r0_4, t_r0_5, t_r0_6, t_r0_7, t_r1_0, t_r3_0, t_r187_0, t_r187_1, t_r187_2, t_r187_3, t_r210_0, t_r212_0, t_r214_1, t_r214_5, t_r214_6, t_r214_8, t_r214_10, t_a2, t_s2, t_a209, t_s209, t_a211, t_s211, t_a213, t_s213, t_a215, t_s215, t_a216, t_s216, t_a217, t_s217, t_a218, t_s218, t_a219, t_s219, t_a4, t_s4, zSt_sI, zSt_sF, zSt_zI, zSt_sJ, zSt_sD, zBo_0, zBo_1, h, h1, h2, e1, e2, e3, bd2_some, bdx_inl, bdx_inr, bdc_inl, bdc_inr, obd_some, ↓reduceIte, nI_add]
    exact ih fu (j + 1) (by omega) (by omega)
theorem c_packed {p q ln : Nat} {rf : Nat → Nat} (h : zSt z S) (hR : zRf z S q rf) (h4 : ∀ i, rf i < 4) (hq : q ≤ 160) (hp : 1 ≤ p) (hpl : p + ln ≤ q + 1) (hl : ln ≤ 8) : F_X3_packed (z + 1) (nI p) (nI ln) S = some (nI (rn rf p ln), S) :=
  c_packed_L h hR h4 hq hp hpl hl ln FU 0 (by omega) (by show ln < 4000; omega)
/-- numbers between bounds -/
theorem in_of {x : Int32} {lo hi : Nat} (hh : hi < 2147483648) (h1 : ¬ x < nI lo) (h2 : ¬ nI hi < x) (hl : lo ≤ hi) : ∃ m, x = nI m ∧ lo ≤ m ∧ m ≤ hi := by
  have e0 : ¬ x < 0 := by
    intro q
    apply h1
    rw [Int32.lt_iff_toInt_lt] at q ⊢
    rw [nI_toInt (by omega)]
    have : (0 : Int32).toInt = 0 := by decide
    omega
  obtain ⟨a, b⟩ := nI_tn e0
  refine ⟨tn x, a, ?_, ?_⟩
  · rw [a, nI_ltI b (by omega)] at h1; omega
  · rw [a, nI_ltI (by omega) b] at h2; omega
theorem in_of' {x : Int32} {lo hi : Nat} (hh : hi < 2147483648) (h1 : ¬ x < nI lo) (h2 : ¬ nI hi ≤ x) (hl : lo ≤ hi) : ∃ m, x = nI m ∧ lo ≤ m ∧ m < hi := by
  obtain ⟨m, e, a, b⟩ := in_of hh h1 (fun q => h2 (Int32.le_of_lt q)) hl
  refine ⟨m, e, a, ?_⟩
  rw [e, nI_leI (by omega) (by omega)] at h2
  omega
theorem pos_of {x : Int32} {lo : Nat} (hl : lo < 2147483648) (h1 : ¬ x < nI lo) : ∃ m, x = nI m ∧ lo ≤ m ∧ m < 2147483648 := by
  have e0 : ¬ x < 0 := by
    intro q
    apply h1
    rw [Int32.lt_iff_toInt_lt] at q ⊢
    rw [nI_toInt (by omega)]
    have : (0 : Int32).toInt = 0 := by decide
    omega
  obtain ⟨a, b⟩ := nI_tn e0
  refine ⟨tn x, a, ?_, b⟩
  rw [a, nI_ltI b (by omega)] at h1; omega
theorem zCl_draft {d : Bool} {r' : Rc} (hs : xOk s) (h : zCl z s S) (hS' : zSt z S') (hR : mR S' (z + 4) = mR S (z + 4)) (hI : ∀ a, z < a → a < z + 173 ∨ z + 180 ≤ a → a < z + 214 → mI S' a = mI S a) (hD : zDf z S' d r') : zCl z (wDraft s d r') S' := by
  obtain ⟨hS, ⟨pp, hL⟩, hRf, -, hT⟩ := h
  refine ⟨hS', ⟨pp, zLv_of hR (fun a h1 h2 => hI a (by omega) (by omega) (by omega)) hs.2.2.2.2.1 hL⟩, zRf_of (hI _ (by omega) (by omega) (by omega)) (hI _ (by omega) (by omega) (by omega)) hRf, hD, zTy_of ?_ ?_ hT⟩
  · rw [hI _ (by omega) (by omega) (by omega)]
  · rw [hI _ (by omega) (by omega) (by omega)]
theorem zn2 (z a b : Nat) (h : 0 < a) : (z + a + b = z) = False := eq_false (by omega)
theorem ne10 : ¬ nI 1 = nI 0 := by decide
theorem toInt_sub1 {p l : Nat} (hp : p ≤ 160) (hl : l ≤ 160) : (nI p - nI l + nI 1).toInt = (p : Int) - l + 1 := by
  rw [Int32.toInt_add, Int32.toInt_sub, nI_toInt (by omega), nI_toInt (by omega), nI_toInt (by omega), Int.bmod_eq_of_le (n := (p : Int) - l) (by omega) (by omega), Int.bmod_eq_of_le (by omega) (by omega)]
  rfl
theorem lt_sub1 {p l q : Nat} (hp : p ≤ 160) (hl : l ≤ 160) (hq : q < 2147483648) : (nI p - nI l + nI 1 < nI q) ↔ p + 1 < q + l := by
  rw [Int32.lt_iff_toInt_lt, toInt_sub1 hp hl, nI_toInt hq]
  omega
theorem C_draft {p l : Int32} (hs : xOk s) (h : zCl z s S) : ∃ S', F_L_draft z p l S = some ((o_draft s p l).1, S') ∧ zCl z (o_draft s p l).2 S' ∧ zCf z S S' := by
  have hS := h.1
  have hR := h.2.2.1
  by_cases c1 : l < nI 1
  · refine ⟨S, ?_, ?_, zCf_refl hS⟩
    · simp only [F_L_draft, F_X5_draft, l_0, l_1, l_2, l_3, l_4, l_5, l_6, l_7, l_8, l_9, l_10, l_11, l_12, l_13, l_14, l_15, l_16, l_17, l_18, l_19, l_20, l_21, l_24, l_25, l_26, l_27, l_31, l_33, l_41, l_65, l_67, l_71, l_84, l_120, l_127, l_128, l_130, l_160, l_162, l_200, l_255, l_256, l_999, l_1000, l_8000, l_9999, l_10000, l_8001, l_m1, t_k0, t_g0, t_p0, t_z0, t_k1, t_g1, t_p1, t_z1, t_k3, t_g3, t_p3, t_z3, t_k187, t_g187, t_p187, t_z187, t_k210, t_g210, t_p210, t_z210, t_k212, t_g212, t_p212, t_z212, t_k214, t_g214, t_p214, t_z214, t_r0_0, t_r0_1, t_r0_2, t_r0_4, t_r0_5, t_r0_6, t_r0_7, t_r1_0, t_r3_0, t_r187_0, t_r187_1, t_r187_2, t_r187_3, t_r210_0, t_r212_0, t_r214_1, t_r214_5, t_r214_6, t_r214_8, t_r214_10, t_a2, t_s2, t_a209, t_s209, t_a211, t_s211, t_a213, t_s213, t_a215, t_s215, t_a216, t_s216, t_a217, t_s217, t_a218, t_s218, t_a219, t_s219, t_a4, t_s4, zSt_sI, zSt_sF, zSt_zI, zSt_sJ, zSt_sD, zBo_0, zBo_1, hS, bd2_some, bdx_inl, bdx_inr, bdc_inl, bdc_inr, obd_some, c1, ↓reduceIte, o_draft, true_or]
    · simp only [o_draft, c1, true_or, ↓reduceIte]; exact h
  by_cases c2 : nI 8 < l
  · have c2' : ¬ l ≤ nI 8 := fun q => Int32.not_lt.mpr q c2
    refine ⟨S, ?_, ?_, zCf_refl hS⟩
    · simp only [F_L_draft, F_X5_draft, l_0, l_1, l_2, l_3, l_4, l_5, l_6, l_7, l_8, l_9, l_10, l_11, l_12, l_13, l_14, l_15, l_16, l_17, l_18, l_19, l_20, l_21, l_24, l_25, l_26, l_27, l_31, l_33, l_41, l_65, l_67, l_71, l_84, l_120, l_127, l_128, l_130, l_160, l_162, l_200, l_255, l_256, l_999, l_1000, l_8000, l_9999, l_10000, l_8001, l_m1, t_k0, t_g0, t_p0, t_z0, t_k1, t_g1, t_p1, t_z1, t_k3, t_g3, t_p3, t_z3, t_k187, t_g187, t_p187, t_z187, t_k210, t_g210, t_p210, t_z210, t_k212, t_g212, t_p212, t_z212, t_k214, t_g214, t_p214, t_z214, t_r0_0, t_r0_1, t_r0_2, t_r0_4, t_r0_5, t_r0_6, t_r0_7, t_r1_0, t_r3_0, t_r187_0, t_r187_1, t_r187_2, t_r187_3, t_r210_0, t_r212_0, t_r214_1, t_r214_5, t_r214_6, t_r214_8, t_r214_10, t_a2, t_s2, t_a209, t_s209, t_a211, t_s211, t_a213, t_s213, t_a215, t_s215, t_a216, t_s216, t_a217, t_s217, t_a218, t_s218, t_a219, t_s219, t_a4, t_s4, zSt_sI, zSt_sF, zSt_zI, zSt_sJ, zSt_sD, zBo_0, zBo_1, hS, bd2_some, bdx_inl, bdx_inr, bdc_inl, bdc_inr, obd_some, c1, c2, c2', ↓reduceIte, o_draft, true_or, or_true]
    · simp only [o_draft, c1, c2, true_or, or_true, ↓reduceIte]; exact h
  have c2' : l ≤ nI 8 := Int32.not_lt.mp c2
  by_cases c3 : p < nI 1 ∨ nI (xP s) - l + nI 1 < p
  · refine ⟨S, ?_, ?_, zCf_refl hS⟩
    · simp only [F_L_draft, F_X5_draft, l_0, l_1, l_2, l_3, l_4, l_5, l_6, l_7, l_8, l_9, l_10, l_11, l_12, l_13, l_14, l_15, l_16, l_17, l_18, l_19, l_20, l_21, l_24, l_25, l_26, l_27, l_31, l_33, l_41, l_65, l_67, l_71, l_84, l_120, l_127, l_128, l_130, l_160, l_162, l_200, l_255, l_256, l_999, l_1000, l_8000, l_9999, l_10000, l_8001, l_m1, t_k0, t_g0, t_p0, t_z0, t_k1, t_g1, t_p1, t_z1, t_k3, t_g3, t_p3, t_z3, t_k187, t_g187, t_p187, t_z187, t_k210, t_g210, t_p210, t_z210, t_k212, t_g212, t_p212, t_z212, t_k214, t_g214, t_p214, t_z214, t_r0_0, t_r0_1, t_r0_2, t_r0_4, t_r0_5, t_r0_6, t_r0_7, t_r1_0, t_r3_0, t_r187_0, t_r187_1, t_r187_2, t_r187_3, t_r210_0, t_r212_0, t_r214_1, t_r214_5, t_r214_6, t_r214_8, t_r214_10, t_a2, t_s2, t_a209, t_s209, t_a211, t_s211, t_a213, t_s213, t_a215, t_s215, t_a216, t_s216, t_a217, t_s217, t_a218, t_s218, t_a219, t_s219, t_a4, t_s4, zSt_sI, zSt_sF, zSt_zI, zSt_sJ, zSt_sD, zBo_0, zBo_1, hS, bd2_some, bdx_inl, bdx_inr, bdc_inl, bdc_inr, obd_some, c1, c2, c2', c_covers, hR.1, c3, ↓reduceIte, o_draft, or_true]
    · simp only [o_draft, c1, c2, c3, or_true, ↓reduceIte]; exact h
  have hq := hs.1
  obtain ⟨ln, rfl, a1, a2⟩ := in_of (by omega) c1 c2 (by omega)
  obtain ⟨pn, rfl, a3, a3'⟩ := pos_of (by omega) (fun q => c3 (Or.inl q))
  have a4 : pn + ln ≤ xP s + 1 := by
    exact Nat.not_lt.mp (fun q => c3 (Or.inr ((lt_sub1 hq (by omega) a3').mpr q)))
  obtain ⟨S1, f1, g1⟩ : ∃ S1, F_X4_clear (z + 173) S = some S1 ∧ S1 = clrV S (z + 173) := ⟨_, c_clear (v_d hS), rfl⟩
  have hF1 : zFr (z + 173) (z + 173 + 7) S S1 := by rw [g1]; exact clr_Fr
  have hS1 : zSt z S1 := zSt_Fr hF1 hS
  have k0 : mI S1 (z + 173) 0 = nI 0 ∧ mI S1 (z + 173) 1 = nI 0 ∧ mI S1 (z + 173) 2 = nI 0 := by rw [g1]; exact clr_0
  have k4 : ∀ i, i < 4 → mI S1 (z + 173 + 4) i = m1 := by rw [g1]; exact clr_4
  have k5 : ∀ i, i < 2 → mI S1 (z + 173 + 5) i = nI 0 := by rw [g1]; exact clr_5
  have k6 : ∀ i, i < 20 → mI S1 (z + 173 + 6) i = nI 0 := by rw [g1]; exact clr_6
  clear g1
  have hR1 : zRf z (sI S1 (z + 173) 0 (nI pn)) (xP s) (xF s) := by
    refine zRf_of ?_ ?_ hR
    · rw [mI_sI_r, if_neg (by omega), hF1.2 _ (by omega)]
    · rw [mI_sI_r, if_neg (by omega), hF1.2 _ (by omega)]
  have hP := c_packed (S := sI S1 (z + 173) 0 (nI pn)) (rf := xF s) (by rw [zSt_sI]; exact hS1) hR1 hs.2.1 hq a3 a4 a2
  have hA := c_append (S := sI S1 (z + 173) 0 (nI pn)) (v := z + 173) (n := 0) (b := nI (rn (xF s) pn ln)) (l := nI ln) (by rw [zVar_sI]; exact v_d hS1) (by rw [mI_sI, if_neg (by omega)]; exact k0.2.2) (by omega)
  have hfin : zFr (z + 173) (z + 173 + 7) S (appV (sI S1 (z + 173) 0 (nI pn)) (z + 173) 0 (nI (rn (xF s) pn ln)) (nI ln)) :=
    zFr_trans hF1 (zFr_trans (zFr_sI (by omega) (by omega)) app_Fr)
  have hSa : zSt z (appV (sI S1 (z + 173) 0 (nI pn)) (z + 173) 0 (nI (rn (xF s) pn ln)) (nI ln)) := zSt_Fr hfin hS
  refine ⟨sI (appV (sI S1 (z + 173) 0 (nI pn)) (z + 173) 0 (nI (rn (xF s) pn ln)) (nI ln)) z 3 (nI 1), ?_, ?_, ?_⟩
  · have q2 : (if nI pn < nI 1 ∨ nI (xP s) - nI ln + nI 1 < nI pn then nI 0 else nI 1) = nI 1 := if_neg c3
    have q3 : zVar (sI S1 (z + 173) 0 (nI pn)) (z + 173) := v_d hS1
    simp only [F_L_draft, F_X5_draft, l_0, l_1, l_2, l_3, l_4, l_5, l_6, l_7, l_8, l_9, l_10, l_11, l_12, l_13, l_14, l_15, l_16, l_17, l_18, l_19, l_20, l_21, l_24, l_25, l_26, l_27, l_31, l_33, l_41, l_65, l_67, l_71, l_84, l_120, l_127, l_128, l_130, l_160, l_162, l_200, l_255, l_256, l_999, l_1000, l_8000, l_9999, l_10000, l_8001, l_m1, t_k0, t_g0, t_p0, t_z0, t_k1, t_g1, t_p1, t_z1, t_k3, t_g3, t_p3, t_z3, t_k187, t_g187, t_p187, t_z187, t_k210, t_g210, t_p210, t_z210, t_k212, t_g212, t_p212, t_z212, t_k214, t_g214, t_p214, t_z214, t_r0_0, t_r0_1, t_r0_2, t_r0_4, t_r0_5, t_r0_6, t_r0_7, t_r1_0, t_r3_0, t_r187_0, t_r187_1, t_r187_2, t_r187_3, t_r210_0, t_r212_0, t_r214_1, t_r214_5, t_r214_6, t_r214_8, t_r214_10, t_a2, t_s2, t_a209, t_s209, t_a211, t_s211, t_a213, t_s213, t_a215, t_s215, t_a216, t_s216, t_a217, t_s217, t_a218, t_s218, t_a219, t_s219, t_a4, t_s4, zSt_sI, zSt_sF, zSt_zI, zSt_sJ, zSt_sD, zBo_0, zBo_1, hS, hS1, hSa, bd2_some, bdx_inl, bdx_inr, bdc_inl, bdc_inr, obd_some, c1, c2, c2', c_covers, hR.1, q2, ne10, ↓reduceIte, o_draft, c3, or_false, false_or, or_self, v_pk (v_d hS), f1, v_pI (v_d hS1), v_pk (v_d hS1), v_pk (v_d hSa), hP, v_pk q3, hA]
  · simp only [o_draft, c1, c2, c3, or_false, or_self, ↓reduceIte, tn_nI a3', tn_nI (show ln < 2 ^ 31 by omega)]
    refine zCl_draft hs h (by rw [zSt_sI]; exact hSa) (by rw [mR_sI, zFr_R hfin]) (fun a h1 h2 h3 => by rw [mI_sI_r, if_neg (by omega), hfin.2 _ (by omega)]) ⟨?_, fun _ => ⟨⟨⟨?_, ?_, ?_⟩, ?_, ?_, ?_, ?_⟩, ?_⟩⟩
    · rw [mI_sI, if_pos ⟨rfl, rfl⟩]; rfl
    · simp [appV, mI_sI, newDraft, aP]
    · simp [appV, mI_sI, newDraft, aQ, k0]
    · simp [appV, mI_sI, newDraft, aN]
    · intro i hi
      have : i = 0 := by simp [newDraft, aN] at hi; exact hi
      subst this
      simp [appV, mI_sI, zn2, newDraft, aB, aL, aD]
    · intro i hi
      simp [appV, mI_sI, zn2, newDraft, aG, gI, k4 i hi]
    · intro i hi
      simp [appV, mI_sI, zn2, newDraft, aH, k5 i hi]
    · intro i hi
      have : i < 10 := by
        have : prs (aN (newDraft (xF s) pn ln)) ≤ 10 := prs_le (by show 1 ≤ 4; omega)
        omega
      simp [appV, mI_sI, zn2, newDraft, aK, k6 i (by omega), k6 (10 + i) (by omega)]
    · intro i hi
      simp [appV, mI_sI, zn2, newDraft, aK, k6 i hi]
  · exact ⟨by rw [zSt_sI]; exact hSa, fun a ha => by rw [mI_sI_r, if_neg (by omega), hfin.2 _ (by omega)]⟩
end C1
