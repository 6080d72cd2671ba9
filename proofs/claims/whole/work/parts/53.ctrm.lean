set_option maxRecDepth 20000
/-! The class normalises. -/
def smin (L : Nat → Nat) : Nat → Nat
  | 0 => L 0
  | k + 1 => if L (k + 1) < smin L k then L (k + 1) else smin L k
theorem smin_lt {L : Nat → Nat} {t : Nat} : ∀ k, smin L k < t ↔ ∃ i, i ≤ k ∧ L i < t := by
  intro k
  induction k with
  | zero =>
    constructor
    · intro h; exact ⟨0, Nat.le_refl _, h⟩
    · rintro ⟨i, h1, h2⟩
      have : i = 0 := by omega
      subst this; exact h2
  | succ k ih =>
    unfold smin
    by_cases c : L (k + 1) < smin L k
    · rw [if_pos c]
      constructor
      · intro h; exact ⟨k + 1, Nat.le_refl _, h⟩
      · rintro ⟨i, h1, h2⟩
        by_cases e : i = k + 1
        · subst e; exact h2
        · have := ih.mpr ⟨i, by omega, h2⟩; omega
    · rw [if_neg c, ih]
      constructor
      · rintro ⟨i, h1, h2⟩; exact ⟨i, by omega, h2⟩
      · rintro ⟨i, h1, h2⟩
        by_cases e : i = k + 1
        · subst e
          exact ih.mp (by omega)
        · exact ⟨i, by omega, h2⟩
section C7
variable {S S' S1 S2 : Mem} {z v w n lo hi o k : Nat} {x l : Int32} {r : Rc} {s : As}
theorem zCR_al {p : Nat} {L B : Nat → Nat} (hr : zCR S v r) (h0 : mI S' v 0 = nI p) (h1 : mI S' v 1 = mI S v 1) (h2 : mI S' v 2 = mI S v 2) (h3 : ∀ t, 3 ≤ t → t < 7 → mI S' (v + t) = mI S (v + t)) (hA : ∀ i, i < aN r → mI S' (v + 1) i = nI (B i) ∧ mI S' (v + 2) i = nI (L i)) : zCR S' v (wAl r p L B) := by
  obtain ⟨⟨a1, a2, a3⟩, b, c, d, e⟩ := hr
  refine ⟨⟨h0, h1.trans a2, h2.trans a3⟩, fun i hi => ⟨(hA i hi).1, (hA i hi).2, ?_⟩, fun i hi => ?_, fun i hi => ?_, fun i hi => ?_⟩
  · rw [h3 3 (by omega) (by omega)]; exact (b i hi).2.2
  · rw [h3 4 (by omega) (by omega)]; exact c i hi
  · rw [h3 5 (by omega) (by omega)]; exact d i hi
  · rw [h3 6 (by omega) (by omega)]; exact e i hi
/-- alleles in memory, sound ones -/
def zAl (S : Mem) (v n : Nat) (L B : Nat → Nat) : Prop := zVar S v ∧ mI S v 2 = nI n ∧ n ≤ 4 ∧ ∀ i, i < n → mI S (v + 1) i = nI (B i) ∧ mI S (v + 2) i = nI (L i) ∧ L i ≤ 8 ∧ B i < 65536
theorem c_end_L {L B : Nat → Nat} (h : zAl S v n L B) (hn : 1 ≤ n) : ∀ (m fu j : Nat), 1 ≤ j → (∀ i, i < j → B i % 4 = B 0 % 4) → j + m = n → m < fu → F_X4_isLastBaseShared_L2 fu v (nI j) S = some (if aEnd n B = true then nI 1 else nI 0, S) := by
  obtain ⟨hv, gn, h4, hA⟩ := h
  intro m
  induction m with
  | zero =>
    intro fu j h1 hi hj hf
    obtain ⟨fu, rfl⟩ : ∃ f, fu = f + 1 := ⟨fu - 1, by omega⟩
    have c1 : nI n ≤ nI j := nI_le (by omega) (by omega)
    have c2 : aEnd n B = true := aEnd_t.mpr (fun i hh => hi i (by omega))
    simp only [F_X4_isLastBaseShared_L2, l_0, l_1, l_2, l_3, l_4, l_5, l_6, l_7, l_8, l_9, l_10, l_11, l_12, l_13, l_14, l_15, l_16, l_17, l_18, l_19, l_20, l_21, l_24, l_25, l_26, l_27, l_31, l_33, l_41, l_65, l_67, l_71, l_84, l_120, l_127, l_128, l_130, l_160, l_162, l_200, l_255, l_256, l_999, l_1000, l_8000, l_9999, l_10000, l_8001, l_m1, v_gI hv, gn, c1, c2, bd2_some, bdx_inl, bdx_inr, bdc_inl, bdc_inr, obd_some, ↓reduceIte]
  | succ m ih =>
    intro fu j h1 hi hj hf
    obtain ⟨fu, rfl⟩ : ∃ f, fu = f + 1 := ⟨fu - 1, by omega⟩
    have c1 : ¬ nI n ≤ nI j := nI_ge (by omega) (by omega)
    have e1 := v_a1 hv (show j < 4 by omega)
    have e0 := v_a1 hv (show 0 < 4 by omega)
    have f1 := (hA j (by omega)).1
    have f0 := (hA 0 (by omega)).1
    have q := i_eq (a := B j % 4) (b := B 0 % 4) (by omega) (by omega)
    simp only [F_X4_isLastBaseShared_L2, l_0, l_1, l_2, l_3, l_4, l_5, l_6, l_7, l_8, l_9, l_10, l_11, l_12, l_13, l_14, l_15, l_16, l_17, l_18, l_19, l_20, l_21, l_24, l_25, l_26, l_27, l_31, l_33, l_41, l_65, l_67, l_71, l_84, l_120, l_127, l_128, l_130, l_160, l_162, l_200, l_255, l_256, l_999, l_1000, l_8000, l_9999, l_10000, l_8001, l_m1, v_gI hv, v_g3 hv, gn, c1, e1, e0, f1, f0, b_and3, q, bd2_some, bdx_inl, bdx_inr, bdc_inl, bdc_inr, obd_some, ↓reduceIte, nI_add]
    by_cases c : B j % 4 = B 0 % 4
    · simp only [c, ↓reduceIte]
      refine ih fu (j + 1) (by omega) (fun i hh => ?_) (by omega) (by omega)
      by_cases e : i = j
      · subst e; exact c
      · exact hi i (by omega)
    · have c2 : ¬ aEnd n B = true := fun q => c (aEnd_t.mp q j (by omega))
      simp only [c, c2, ↓reduceIte, Bool.false_eq_true]
theorem c_end {L B : Nat → Nat} (h : zAl S v n L B) (hn : 1 ≤ n) : F_X4_isLastBaseShared v S = some (if aEnd n B = true then nI 1 else nI 0, S) :=
  c_end_L h hn (n - 1) FU 1 (Nat.le_refl _) (fun i hi => by have : i = 0 := by omega
                                                            subst this; rfl) (by omega) (by have := h.2.2.1; show n - 1 < 4000; omega)
theorem c_fst_L {L B : Nat → Nat} (h : zAl S v n L B) (hL : ∀ i, i < n → 1 ≤ L i) (hn : 1 ≤ n) : ∀ (m fu j : Nat), 1 ≤ j → (∀ i, i < j → fst L B i = fst L B 0) → j + m = n → m < fu → F_X4_isFirstBaseShared_L20 fu v (nI (fst L B 0)) (nI j) S = some (if aFst n L B = true then nI 1 else nI 0, S) := by
  obtain ⟨hv, gn, h4, hA⟩ := h
  intro m
  induction m with
  | zero =>
    intro fu j h1 hi hj hf
    obtain ⟨fu, rfl⟩ : ∃ f, fu = f + 1 := ⟨fu - 1, by omega⟩
    have c1 : nI n ≤ nI j := nI_le (by omega) (by omega)
    have c2 : aFst n L B = true := aFst_t.mpr (fun i hh => hi i (by omega))
    simp only [F_X4_isFirstBaseShared_L20, l_0, l_1, l_2, l_3, l_4, l_5, l_6, l_7, l_8, l_9, l_10, l_11, l_12, l_13, l_14, l_15, l_16, l_17, l_18, l_19, l_20, l_21, l_24, l_25, l_26, l_27, l_31, l_33, l_41, l_65, l_67, l_71, l_84, l_120, l_127, l_128, l_130, l_160, l_162, l_200, l_255, l_256, l_999, l_1000, l_8000, l_9999, l_10000, l_8001, l_m1, v_gI hv, gn, c1, c2, bd2_some, bdx_inl, bdx_inr, bdc_inl, bdc_inr, obd_some, ↓reduceIte]
  | succ m ih =>
    intro fu j h1 hi hj hf
    obtain ⟨fu, rfl⟩ : ∃ f, fu = f + 1 := ⟨fu - 1, by omega⟩
    have c1 : ¬ nI n ≤ nI j := nI_ge (by omega) (by omega)
    have e1 := v_a1 hv (show j < 4 by omega)
    have e2 := v_a2 hv (show j < 4 by omega)
    obtain ⟨f1, f2, f3, f4⟩ := hA j (by omega)
    have hl := hL j (by omega)
    have hb := c_baseOf (b := (nI (B j)).toInt64) (n := L j) (i := 0) (d := L j - 1) (S := S) (by omega) (by omega) (by omega)
    rw [dg_nI (by omega)] at hb
    have q := i_eq (a := B j / 4 ^ (L j - 1) % 4) (b := fst L B 0) (by omega) (by unfold fst; omega)
    simp only [F_X4_isFirstBaseShared_L20, l_0, l_1, l_2, l_3, l_4, l_5, l_6, l_7, l_8, l_9, l_10, l_11, l_12, l_13, l_14, l_15, l_16, l_17, l_18, l_19, l_20, l_21, l_24, l_25, l_26, l_27, l_31, l_33, l_41, l_65, l_67, l_71, l_84, l_120, l_127, l_128, l_130, l_160, l_162, l_200, l_255, l_256, l_999, l_1000, l_8000, l_9999, l_10000, l_8001, l_m1, v_gI hv, v_g3 hv, v_g4 hv, gn, c1, e1, e2, f1, f2, hb, q, bd2_some, bdx_inl, bdx_inr, bdc_inl, bdc_inr, obd_some, ↓reduceIte, nI_add]
    by_cases c : B j / 4 ^ (L j - 1) % 4 = fst L B 0
    · simp only [c, ↓reduceIte]
      refine ih fu (j + 1) (by omega) (fun i hh => ?_) (by omega) (by omega)
      by_cases e : i = j
      · subst e; exact c
      · exact hi i (by omega)
    · have c2 : ¬ aFst n L B = true := fun q => c (aFst_t.mp q j (by omega))
      simp only [c, c2, ↓reduceIte, Bool.false_eq_true]
theorem c_fst {L B : Nat → Nat} (h : zAl S v n L B) (hL : ∀ i, i < n → 1 ≤ L i) (hn : 1 ≤ n) : F_X4_isFirstBaseShared v S = some (if aFst n L B = true then nI 1 else nI 0, S) := by
  obtain ⟨hv, gn, h4, hA⟩ := id h
  have e1 := v_a1 hv (show 0 < 4 by omega)
  have e2 := v_a2 hv (show 0 < 4 by omega)
  obtain ⟨f1, f2, f3, f4⟩ := hA 0 (by omega)
  have hl := hL 0 (by omega)
  have hb := c_baseOf (b := (nI (B 0)).toInt64) (n := L 0) (i := 0) (d := L 0 - 1) (S := S) (by omega) (by omega) (by omega)
  rw [dg_nI (by omega)] at hb
  have := c_fst_L h hL hn (n - 1) FU 1 (Nat.le_refl _) (fun i hi => by have : i = 0 := by omega
                                                                       subst this; rfl) (by omega) (by show n - 1 < 4000; omega)
  simp only [F_X4_isFirstBaseShared, l_0, l_1, l_2, l_3, l_4, l_5, l_6, l_7, l_8, l_9, l_10, l_11, l_12, l_13, l_14, l_15, l_16, l_17, l_18, l_19, l_20, l_21, l_24, l_25, l_26, l_27, l_31, l_33, l_41, l_65, l_67, l_71, l_84, l_120, l_127, l_128, l_130, l_160, l_162, l_200, l_255, l_256, l_999, l_1000, l_8000, l_9999, l_10000, l_8001, l_m1, v_g3 hv, v_g4 hv, e1, e2, f1, f2, hb, bd2_some, bdx_inl, bdx_inr, bdc_inl, bdc_inr, obd_some]
  exact this
theorem c_short_L {L B : Nat → Nat} (h : zAl S v n L B) (hn : 1 ≤ n) : ∀ (m fu j : Nat), j + 1 + m = n → m < fu → F_X4_shortest_L9 fu v (nI (smin L j)) (nI (j + 1)) S = some (nI (smin L (n - 1)), S) := by
  obtain ⟨hv, gn, h4, hA⟩ := h
  intro m
  induction m with
  | zero =>
    intro fu j hj hf
    obtain ⟨fu, rfl⟩ : ∃ f, fu = f + 1 := ⟨fu - 1, by omega⟩
    have c1 : nI n ≤ nI (j + 1) := nI_le (by omega) (by omega)
    have e : n - 1 = j := by omega
    simp only [F_X4_shortest_L9, l_0, l_1, l_2, l_3, l_4, l_5, l_6, l_7, l_8, l_9, l_10, l_11, l_12, l_13, l_14, l_15, l_16, l_17, l_18, l_19, l_20, l_21, l_24, l_25, l_26, l_27, l_31, l_33, l_41, l_65, l_67, l_71, l_84, l_120, l_127, l_128, l_130, l_160, l_162, l_200, l_255, l_256, l_999, l_1000, l_8000, l_9999, l_10000, l_8001, l_m1, v_gI hv, gn, c1, e, bd2_some, bdx_inl, bdx_inr, bdc_inl, bdc_inr, obd_some, ↓reduceIte]
  | succ m ih =>
    intro fu j hj hf
    obtain ⟨fu, rfl⟩ : ∃ f, fu = f + 1 := ⟨fu - 1, by omega⟩
    have c1 : ¬ nI n ≤ nI (j + 1) := nI_ge (by omega) (by omega)
    have e2 := v_a2 hv (show j + 1 < 4 by omega)
    obtain ⟨f1, f2, f3, f4⟩ := hA (j + 1) (by omega)
    have hs : smin L j ≤ 8 := by
      have h0 := (hA 0 (by omega)).2.2.1
      have := (smin_lt (L := L) (t := 9) j).mpr ⟨0, by omega, by omega⟩
      omega
    have q : (if nI (L (j + 1)) < nI (smin L j) then nI (L (j + 1)) else nI (smin L j)) = nI (smin L (j + 1)) := by
      have q0 := i_lt (a := L (j + 1)) (b := smin L j) (by omega) (by omega)
      have q1 : smin L (j + 1) = if L (j + 1) < smin L j then L (j + 1) else smin L j := rfl
      by_cases c : L (j + 1) < smin L j
      · rw [if_pos (by rw [q0]; exact c), q1, if_pos c]
      · rw [if_neg (by rw [q0]; exact c), q1, if_neg c]
    simp only [F_X4_shortest_L9, l_0, l_1, l_2, l_3, l_4, l_5, l_6, l_7, l_8, l_9, l_10, l_11, l_12, l_13, l_14, l_15, l_16, l_17, l_18, l_19, l_20, l_21, l_24, l_25, l_26, l_27, l_31, l_33, l_41, l_65, l_67, l_71, l_84, l_120, l_127, l_128, l_130, l_160, l_162, l_200, l_255, l_256, l_999, l_1000, l_8000, l_9999, l_10000, l_8001, l_m1, v_gI hv, v_g4 hv, gn, c1, e2, f2, q, bd2_some, bdx_inl, bdx_inr, bdc_inl, bdc_inr, obd_some, ↓reduceIte, nI_add]
    exact ih fu (j + 1) (by omega) (by omega)
theorem c_short {L B : Nat → Nat} (h : zAl S v n L B) (hn : 1 ≤ n) : F_X4_shortest v S = some (nI (smin L (n - 1)), S) := by
  obtain ⟨hv, gn, h4, hA⟩ := id h
  have e2 := v_a2 hv (show 0 < 4 by omega)
  obtain ⟨f1, f2, f3, f4⟩ := hA 0 (by omega)
  have := c_short_L h hn (n - 1) FU 0 (by omega) (by show n - 1 < 4000; omega)
  simp only [F_X4_shortest, l_0, l_1, l_2, l_3, l_4, l_5, l_6, l_7, l_8, l_9, l_10, l_11, l_12, l_13, l_14, l_15, l_16, l_17, l_18, l_19, l_20, l_21, l_24, l_25, l_26, l_27, l_31, l_33, l_41, l_65, l_67, l_71, l_84, l_120, l_127, l_128, l_130, l_160, l_162, l_200, l_255, l_256, l_999, l_1000, l_8000, l_9999, l_10000, l_8001, l_m1, v_g4 hv, e2, f2, bd2_some, bdx_inl, bdx_inr, bdc_inl, bdc_inr, obd_some]
  exact this
/-- a pass over the alleles that changes bases and lengths -/
def zPs (S : Mem) (v n j : Nat) (L B L' B' : Nat → Nat) : Prop := zVar S v ∧ mI S v 2 = nI n ∧ n ≤ 4 ∧ (∀ i, i < j → mI S (v + 1) i = nI (B' i) ∧ mI S (v + 2) i = nI (L' i)) ∧ ∀ i, j ≤ i → i < n → mI S (v + 1) i = nI (B i) ∧ mI S (v + 2) i = nI (L i) ∧ L i ≤ 8 ∧ B i < 65536
theorem zPs_0 {L B L' B' : Nat → Nat} (h : zAl S v n L B) : zPs S v n 0 L B L' B' := ⟨h.1, h.2.1, h.2.2.1, fun i hi => by omega, fun i _ hi => h.2.2.2 i hi⟩
theorem zPs_s {j : Nat} {L B L' B' : Nat → Nat} (h : zPs S v n j L B L' B') (hj : j < n) : zPs (sI (sI S (v + 1) j (nI (B' j))) (v + 2) j (nI (L' j))) v n (j + 1) L B L' B' := by
  obtain ⟨hv, gn, h4, hA, hB⟩ := h
  refine ⟨by rw [zVar_sI, zVar_sI]; exact hv, ?_, h4, ?_, ?_⟩
  · rw [mI_sI, if_neg (by omega), mI_sI, if_neg (by omega)]; exact gn
  · intro i hi
    by_cases e : i = j
    · subst e; simp [mI_sI]
    · have := hA i (by omega)
      simp [mI_sI, e, this]
  · intro i h1 h2
    have := hB i (by omega) h2
    have e : ¬ i = j := by omega
    simp [mI_sI, e, this]
theorem zPs_s' {j : Nat} {L B L' B' : Nat → Nat} (h : zPs S v n j L B L' B') (hj : j < n) : zPs (sI (sI S (v + 2) j (nI (L' j))) (v + 1) j (nI (B' j))) v n (j + 1) L B L' B' := by
  obtain ⟨hv, gn, h4, hA, hB⟩ := h
  refine ⟨by rw [zVar_sI, zVar_sI]; exact hv, ?_, h4, ?_, ?_⟩
  · rw [mI_sI, if_neg (by omega), mI_sI, if_neg (by omega)]; exact gn
  · intro i hi
    by_cases e : i = j
    · subst e; simp [mI_sI]
    · have := hA i (by omega)
      simp [mI_sI, e, this]
  · intro i h1 h2
    have := hB i (by omega) h2
    have e : ¬ i = j := by omega
    simp [mI_sI, e, this]
theorem zFr_2 {j : Nat} {a b : Int32} : zFr (v + 1) (v + 3) S (sI (sI S (v + 1) j a) (v + 2) j b) := zFr_trans (zFr_sI (by omega) (by omega)) (zFr_sI (by omega) (by omega))
theorem zFr_2' {j : Nat} {a b : Int32} : zFr (v + 1) (v + 3) S (sI (sI S (v + 2) j a) (v + 1) j b) := zFr_trans (zFr_sI (by omega) (by omega)) (zFr_sI (by omega) (by omega))
theorem c_putF_L {base : Nat} {L B : Nat → Nat} (hb : base < 4) (hL : ∀ i, i < n → L i ≤ 7 ∧ B i < 4 ^ L i) : ∀ (m fu j : Nat) (S : Mem), zPs S v n j L B (fun i => L i + 1) (fun i => B i + base * 4 ^ L i) → j + m = n → m < fu →
    ∃ S', F_X4_putInFront_L2 fu v (nI base) (nI j) S = some S' ∧ zFr (v + 1) (v + 3) S S' ∧ zPs S' v n n L B (fun i => L i + 1) (fun i => B i + base * 4 ^ L i) := by
  intro m
  induction m with
  | zero =>
    intro fu j S h hj hf
    obtain ⟨fu, rfl⟩ : ∃ f, fu = f + 1 := ⟨fu - 1, by omega⟩
    have h4 := h.2.2.1
    have c1 : nI n ≤ nI j := nI_le (by omega) (by omega)
    have e : j = n := by omega
    refine ⟨S, ?_, zFr_refl, by rw [← e]; rw [← e] at h; exact h⟩
    simp only [F_X4_putInFront_L2, l_0, l_1, l_2, l_3, l_4, l_5, l_6, l_7, l_8, l_9, l_10, l_11, l_12, l_13, l_14, l_15, l_16, l_17, l_18, l_19, l_20, l_21, l_24, l_25, l_26, l_27, l_31, l_33, l_41, l_65, l_67, l_71, l_84, l_120, l_127, l_128, l_130, l_160, l_162, l_200, l_255, l_256, l_999, l_1000, l_8000, l_9999, l_10000, l_8001, l_m1, v_gI h.1, h.2.1, c1, bd2_some, bdx_inl, bdx_inr, bdc_inl, bdc_inr, obd_some, ↓reduceIte]
  | succ m ih =>
    intro fu j S h hj hf
    obtain ⟨fu, rfl⟩ : ∃ f, fu = f + 1 := ⟨fu - 1, by omega⟩
    obtain ⟨hv, gn, h4, hA, hB⟩ := id h
    have c1 : ¬ nI n ≤ nI j := nI_ge (by omega) (by omega)
    obtain ⟨f1, f2, f3, f4⟩ := hB j (Nat.le_refl _) (by omega)
    have j4 : j < 4 := by omega
    obtain ⟨l7, bl⟩ := hL j (by omega)
    have n1 : (v + 2 = v + 1) = False := eq_false (by omega)
    have q : nI (B j) ||| (nI base <<< (nI (2 * L j) &&& nI 31)) = nI (B j + base * 4 ^ L j) := by
      rw [b_31 (by omega), b_shl (by omega), ← four_two]
      exact b_orAdd' (by rw [four_two]; exact bl)
    obtain ⟨S', q1, q2, q3⟩ := ih fu (j + 1) _ (zPs_s h (by omega)) (by omega) (by omega)
    refine ⟨S', ?_, zFr_trans zFr_2 q2, q3⟩
    simp only [F_X4_putInFront_L2, l_0, l_1, l_2, l_3, l_4, l_5, l_6, l_7, l_8, l_9, l_10, l_11, l_12, l_13, l_14, l_15, l_16, l_17, l_18, l_19, l_20, l_21, l_24, l_25, l_26, l_27, l_31, l_33, l_41, l_65, l_67, l_71, l_84, l_120, l_127, l_128, l_130, l_160, l_162, l_200, l_255, l_256, l_999, l_1000, l_8000, l_9999, l_10000, l_8001, l_m1, v_pk, v_gI, v_pI, v_g3, v_a1, v_s1, v_g4, v_a2, v_s2, v_g5, v_a3, v_s3, v_g6, v_a4, v_s4, v_g7, v_a5, v_s5, v_g8, v_a6, v_s6, zVar_sI, zVar_sF, zVar_zI, zBo_0, zBo_1, hv, gn, c1, j4, f1, f2, nI_mul, q, nI_add, bd2_some, bdx_inl, bdx_inr, bdc_inl, bdc_inr, obd_some, ↓reduceIte, mI_sI, n1, false_and]
    exact q1
theorem c_tEnd_L {L B : Nat → Nat} (hL : ∀ i, i < n → 1 ≤ L i) : ∀ (m fu j : Nat) (S : Mem), zPs S v n j L B (fun i => L i - 1) (fun i => B i / 4) → j + m = n → m < fu →
    ∃ S', (∃ fu', F_X4_trimEnd_L27 fu v w (nI j) S = F_X4_trimEnd_L27 (fu' + 1) v w (nI n) S') ∧ zFr (v + 1) (v + 3) S S' ∧ zPs S' v n n L B (fun i => L i - 1) (fun i => B i / 4) := by
  intro m
  induction m with
  | zero =>
    intro fu j S h hj hf
    obtain ⟨fu, rfl⟩ : ∃ f, fu = f + 1 := ⟨fu - 1, by omega⟩
    have e : j = n := by omega
    exact ⟨S, ⟨fu, by rw [e]⟩, zFr_refl, by rw [← e]; rw [← e] at h; exact h⟩
  | succ m ih =>
    intro fu j S h hj hf
    obtain ⟨fu, rfl⟩ : ∃ f, fu = f + 1 := ⟨fu - 1, by omega⟩
    obtain ⟨hv, gn, h4, hA, hB⟩ := id h
    have c1 : ¬ nI n ≤ nI j := nI_ge (by omega) (by omega)
    obtain ⟨f1, f2, f3, f4⟩ := hB j (Nat.le_refl _) (by omega)
    have j4 : j < 4 := by omega
    have hl := hL j (by omega)
    have n1 : (v + 2 = v + 1) = False := eq_false (by omega)
    have q : nI (B j) >>> (nI 2 &&& nI 31) = nI (B j / 4) := by
      rw [b_31 (by omega), b_shr (by omega) (by omega)]
    have q' : nI (L j) - nI 1 = nI (L j - 1) := nI_sub1 hl
    obtain ⟨S', ⟨fu', q1⟩, q2, q3⟩ := ih fu (j + 1) _ (zPs_s h (by omega)) (by omega) (by omega)
    refine ⟨S', ⟨fu', ?_⟩, zFr_trans zFr_2 q2, q3⟩
    rw [← q1]
    simp only [F_X4_trimEnd_L27, l_0, l_1, l_2, l_3, l_4, l_5, l_6, l_7, l_8, l_9, l_10, l_11, l_12, l_13, l_14, l_15, l_16, l_17, l_18, l_19, l_20, l_21, l_24, l_25, l_26, l_27, l_31, l_33, l_41, l_65, l_67, l_71, l_84, l_120, l_127, l_128, l_130, l_160, l_162, l_200, l_255, l_256, l_999, l_1000, l_8000, l_9999, l_10000, l_8001, l_m1, v_pk, v_gI, v_pI, v_g3, v_a1, v_s1, v_g4, v_a2, v_s2, v_g5, v_a3, v_s3, v_g6, v_a4, v_s4, v_g7, v_a5, v_s5, v_g8, v_a6, v_s6, zVar_sI, zVar_sF, zVar_zI, zBo_0, zBo_1, hv, gn, c1, j4, f1, f2, q, q', nI_add, bd2_some, bdx_inl, bdx_inr, bdc_inl, bdc_inr, obd_some, ↓reduceIte, mI_sI, n1, false_and]
theorem c_tFr_L {L B : Nat → Nat} (hL : ∀ i, i < n → 1 ≤ L i) : ∀ (m fu j : Nat) (S : Mem), zPs S v n j L B (fun i => L i - 1) (fun i => B i % 4 ^ (L i - 1)) → j + m = n → m < fu →
    ∃ S', F_X4_trimFront_L19 fu v (nI j) S = some (nI 1, sI S' v 0 (mI S' v 0 + nI 1)) ∧ zFr (v + 1) (v + 3) S S' ∧ zPs S' v n n L B (fun i => L i - 1) (fun i => B i % 4 ^ (L i - 1)) := by
  intro m
  induction m with
  | zero =>
    intro fu j S h hj hf
    obtain ⟨fu, rfl⟩ : ∃ f, fu = f + 1 := ⟨fu - 1, by omega⟩
    have h4 := h.2.2.1
    have c1 : nI n ≤ nI j := nI_le (by omega) (by omega)
    have e : j = n := by omega
    refine ⟨S, ?_, zFr_refl, by rw [← e]; rw [← e] at h; exact h⟩
    simp only [F_X4_trimFront_L19, l_0, l_1, l_2, l_3, l_4, l_5, l_6, l_7, l_8, l_9, l_10, l_11, l_12, l_13, l_14, l_15, l_16, l_17, l_18, l_19, l_20, l_21, l_24, l_25, l_26, l_27, l_31, l_33, l_41, l_65, l_67, l_71, l_84, l_120, l_127, l_128, l_130, l_160, l_162, l_200, l_255, l_256, l_999, l_1000, l_8000, l_9999, l_10000, l_8001, l_m1, v_gI h.1, v_pI h.1, h.2.1, c1, bd2_some, bdx_inl, bdx_inr, bdc_inl, bdc_inr, obd_some, ↓reduceIte]
  | succ m ih =>
    intro fu j S h hj hf
    obtain ⟨fu, rfl⟩ : ∃ f, fu = f + 1 := ⟨fu - 1, by omega⟩
    obtain ⟨hv, gn, h4, hA, hB⟩ := id h
    have c1 : ¬ nI n ≤ nI j := nI_ge (by omega) (by omega)
    obtain ⟨f1, f2, f3, f4⟩ := hB j (Nat.le_refl _) (by omega)
    have j4 : j < 4 := by omega
    have hl := hL j (by omega)
    have n1 : (v + 1 = v + 2) = False := eq_false (by omega)
    have q' : nI (L j) - nI 1 = nI (L j - 1) := nI_sub1 hl
    have q : ∀ T, F_X5_lowBases (nI (L j - 1)) T = some (nI (4 ^ (L j - 1) - 1), T) := by
      intro T
      simp only [F_X5_lowBases, l_0, l_1, l_2, l_3, l_4, l_5, l_6, l_7, l_8, l_9, l_10, l_11, l_12, l_13, l_14, l_15, l_16, l_17, l_18, l_19, l_20, l_21, l_24, l_25, l_26, l_27, l_31, l_33, l_41, l_65, l_67, l_71, l_84, l_120, l_127, l_128, l_130, l_160, l_162, l_200, l_255, l_256, l_999, l_1000, l_8000, l_9999, l_10000, l_8001, l_m1, nI_mul, b_low (show L j - 1 < 16 by omega)]
    obtain ⟨S', q1, q2, q3⟩ := ih fu (j + 1) _ (zPs_s' h (by omega)) (by omega) (by omega)
    refine ⟨S', ?_, zFr_trans zFr_2' q2, q3⟩
    simp only [F_X4_trimFront_L19, l_0, l_1, l_2, l_3, l_4, l_5, l_6, l_7, l_8, l_9, l_10, l_11, l_12, l_13, l_14, l_15, l_16, l_17, l_18, l_19, l_20, l_21, l_24, l_25, l_26, l_27, l_31, l_33, l_41, l_65, l_67, l_71, l_84, l_120, l_127, l_128, l_130, l_160, l_162, l_200, l_255, l_256, l_999, l_1000, l_8000, l_9999, l_10000, l_8001, l_m1, v_pk, v_gI, v_pI, v_g3, v_a1, v_s1, v_g4, v_a2, v_s2, v_g5, v_a3, v_s3, v_g6, v_a4, v_s4, v_g7, v_a5, v_s5, v_g8, v_a6, v_s6, zVar_sI, zVar_sF, zVar_zI, zBo_0, zBo_1, hv, gn, c1, j4, f1, f2, q, q', b_andLow, nI_add, bd2_some, bdx_inl, bdx_inr, bdc_inl, bdc_inr, obd_some, ↓reduceIte, mI_sI, n1, false_and, and_self]
    exact q1
theorem zAl_ok {p : Nat} {rf : Nat → Nat} (hv : zVar S v) (hr : zCR S v r) (h : aOk p rf r) : zAl S v (aN r) (aL r) (aB r) :=
  ⟨hv, hr.1.2.2, h.1.2, fun i hi => ⟨(hr.2.1 i hi).1, (hr.2.1 i hi).2.1, (h.2.1.1 i hi).2.1, by
    have := (h.2.1.1 i hi).2.2
    have := p4_8 (h.2.1.1 i hi).2.1
    omega⟩⟩
theorem two_smin {n : Nat} {L : Nat → Nat} (hn : 1 ≤ n) : smin L (n - 1) < 2 ↔ ¬ aTwo n L = true := by
  rw [smin_lt, aTwo_t]
  constructor
  · rintro ⟨i, h1, h2⟩ q
    have := q i (by omega)
    omega
  · intro q
    refine Classical.byContradiction (fun hc => q (fun i hi => ?_))
    refine Classical.byContradiction (fun h2 => hc ⟨i, by omega, by omega⟩)
theorem c_trimEnd {p : Nat} {rf : Nat → Nat} (h4 : ∀ i, rf i < 4) (hp : p ≤ 160) (hS : zSt z S) (hv : zVar S v) (hvz : z + 3 ≤ v) (hR : zRf z S p rf) (hr : zCR S v r) (h : aOk p rf r) :
    (¬ (aEnd (aN r) (aB r) = true ∧ (aTwo (aN r) (aL r) = true ∨ 1 < aP r)) → F_X4_trimEnd v (z + 1) S = some (nI 0, S)) ∧
    ((aEnd (aN r) (aB r) = true ∧ (aTwo (aN r) (aL r) = true ∨ 1 < aP r)) → ∃ S', F_X4_trimEnd v (z + 1) S = some (nI 1, S') ∧ zFr v (v + 7) S S' ∧
      zCR S' v (if aTwo (aN r) (aL r) = true then wAl r (aP r) (fun i => aL r i - 1) (fun i => aB r i / 4) else wAl r (aP r - 1) (aL r) (fun i => aB r i / 4 + rf (aP r - 1) * 4 ^ (aL r i - 1)))) := by
  have hA := zAl_ok hv hr h
  have hn := h.1.1
  have hn4 := h.1.2
  have e1 := c_end hA (by omega)
  have e2 := c_short hA (by omega)
  have hs := two_smin (n := aN r) (L := aL r) (by omega)
  have hP := h.2.2.1.1
  have hP2 := (ok31 hp h).1
  have h8 : smin (aL r) (aN r - 1) ≤ 8 := by
    have h0 := (h.2.1.1 0 (by omega)).2.1
    have := (smin_lt (L := aL r) (t := 9) (aN r - 1)).mpr ⟨0, by omega, by omega⟩
    omega
  have gp := hr.1.1
  constructor
  · intro c
    by_cases c1 : aEnd (aN r) (aB r) = true
    · have c2 : ¬ aTwo (aN r) (aL r) = true ∧ ¬ 1 < aP r := ⟨fun q => c ⟨c1, Or.inl q⟩, fun q => c ⟨c1, Or.inr q⟩⟩
      have c3 : aP r = 1 := by omega
      have c4 : ¬ nI 2 ≤ nI (smin (aL r) (aN r - 1)) := nI_ge (hs.mpr c2.1) (by omega)
      rw [if_pos c1] at e1
      rw [c3] at gp
      simp only [F_X4_trimEnd, l_0, l_1, l_2, l_3, l_4, l_5, l_6, l_7, l_8, l_9, l_10, l_11, l_12, l_13, l_14, l_15, l_16, l_17, l_18, l_19, l_20, l_21, l_24, l_25, l_26, l_27, l_31, l_33, l_41, l_65, l_67, l_71, l_84, l_120, l_127, l_128, l_130, l_160, l_162, l_200, l_255, l_256, l_999, l_1000, l_8000, l_9999, l_10000, l_8001, l_m1, v_pk hv, e1, ne10, v_gI hv, gp, e2, c4, bd2_some, bdx_inl, bdx_inr, bdc_inl, bdc_inr, obd_some, ↓reduceIte]
    · rw [if_neg c1] at e1
      simp only [F_X4_trimEnd, l_0, l_1, l_2, l_3, l_4, l_5, l_6, l_7, l_8, l_9, l_10, l_11, l_12, l_13, l_14, l_15, l_16, l_17, l_18, l_19, l_20, l_21, l_24, l_25, l_26, l_27, l_31, l_33, l_41, l_65, l_67, l_71, l_84, l_120, l_127, l_128, l_130, l_160, l_162, l_200, l_255, l_256, l_999, l_1000, l_8000, l_9999, l_10000, l_8001, l_m1, v_pk hv, e1, bd2_some, bdx_inl, bdx_inr, bdc_inl, bdc_inr, obd_some, ↓reduceIte]
  · rintro ⟨c1, c2⟩
    rw [if_pos c1] at e1
    obtain ⟨S1, ⟨fu', q1⟩, q2, q3⟩ := c_tEnd_L (w := z + 1) (fun i hi => (h.2.1.1 i hi).1) (aN r) FU 0 S (zPs_0 (L' := fun i => aL r i - 1) (B' := fun i => aB r i / 4) hA) (by omega) (by show aN r < 4000; omega)
    have q2' : zFr v (v + 7) S S1 := zFr_mono q2 (by omega) (by omega)
    have hv1 := zVar_Fr q2' hv
    have hS1 := zSt_Fr q2' hS
    have hA1 : zAl S1 v (aN r) (fun i => aL r i - 1) (fun i => aB r i / 4) := ⟨hv1, q3.2.1, hn4, fun i hi => ⟨(q3.2.2.2.1 i hi).1, (q3.2.2.2.1 i hi).2, by
      have := (h.2.1.1 i hi).2.1
      show aL r i - 1 ≤ 8
      omega, by
      have := (hA.2.2.2 i hi).2.2.2
      show aB r i / 4 < 65536
      omega⟩⟩
    have e3 := c_short hA1 (by omega)
    have gp1 : mI S1 v 0 = nI (aP r) := by rw [q2.2 v (by omega)]; exact gp
    have gn1 : mI S1 v 2 = nI (aN r) := q3.2.1
    have go : F_X4_trimEnd v (z + 1) S = F_X4_trimEnd_L27 (fu' + 1) v (z + 1) (nI (aN r)) S1 := by
      rw [← q1]
      by_cases c3 : aP r = 1
      · have c4 : nI 2 ≤ nI (smin (aL r) (aN r - 1)) := by
          refine nI_le (Nat.not_lt.mp (fun q => ?_)) (by omega)
          rcases c2 with c2 | c2
          · exact hs.mp q c2
          · omega
        rw [c3] at gp
        simp only [F_X4_trimEnd, F_X4_trimEnd_J25, l_0, l_1, l_2, l_3, l_4, l_5, l_6, l_7, l_8, l_9, l_10, l_11, l_12, l_13, l_14, l_15, l_16, l_17, l_18, l_19, l_20, l_21, l_24, l_25, l_26, l_27, l_31, l_33, l_41, l_65, l_67, l_71, l_84, l_120, l_127, l_128, l_130, l_160, l_162, l_200, l_255, l_256, l_999, l_1000, l_8000, l_9999, l_10000, l_8001, l_m1, v_pk hv, e1, ne10, v_gI hv, gp, e2, c4, bd2_some, bdx_inl, bdx_inr, bdc_inl, bdc_inr, obd_some, ↓reduceIte]
      · have c4 : ¬ nI (aP r) = nI 1 := fun q => c3 ((nI_eq (by omega) (by omega)).mp q)
        simp only [F_X4_trimEnd, F_X4_trimEnd_J25, l_0, l_1, l_2, l_3, l_4, l_5, l_6, l_7, l_8, l_9, l_10, l_11, l_12, l_13, l_14, l_15, l_16, l_17, l_18, l_19, l_20, l_21, l_24, l_25, l_26, l_27, l_31, l_33, l_41, l_65, l_67, l_71, l_84, l_120, l_127, l_128, l_130, l_160, l_162, l_200, l_255, l_256, l_999, l_1000, l_8000, l_9999, l_10000, l_8001, l_m1, v_pk hv, e1, ne10, v_gI hv, gp, c4, bd2_some, bdx_inl, bdx_inr, bdc_inl, bdc_inr, obd_some, ↓reduceIte]
    have c5 : nI (aN r) ≤ nI (aN r) := nI_le (Nat.le_refl _) (by omega)
    have rows1 : ∀ t, 3 ≤ t → t < 7 → mI S1 (v + t) = mI S (v + t) := fun t h1 h2 => q2.2 _ (by omega)
    by_cases c6 : aTwo (aN r) (aL r) = true
    · have c7 : ¬ nI (smin (fun i => aL r i - 1) (aN r - 1)) = nI 0 := by
        intro q
        have h8' : smin (fun i => aL r i - 1) (aN r - 1) ≤ 8 := by
          have h0 := (h.2.1.1 0 (by omega)).2.1
          have := (smin_lt (L := fun i => aL r i - 1) (t := 9) (aN r - 1)).mpr ⟨0, by omega, by show aL r 0 - 1 < 9; omega⟩
          omega
        have q' := (nI_eq (by omega) (by omega)).mp q
        obtain ⟨i, i1, i2⟩ := (smin_lt (L := fun i => aL r i - 1) (t := 1) (aN r - 1)).mp (by omega)
        have := aTwo_t.mp c6 i (by omega)
        have i2' : aL r i - 1 < 1 := i2
        omega
      refine ⟨S1, ?_, q2', ?_⟩
      · rw [go]
        simp only [F_X4_trimEnd_L27, l_0, l_1, l_2, l_3, l_4, l_5, l_6, l_7, l_8, l_9, l_10, l_11, l_12, l_13, l_14, l_15, l_16, l_17, l_18, l_19, l_20, l_21, l_24, l_25, l_26, l_27, l_31, l_33, l_41, l_65, l_67, l_71, l_84, l_120, l_127, l_128, l_130, l_160, l_162, l_200, l_255, l_256, l_999, l_1000, l_8000, l_9999, l_10000, l_8001, l_m1, v_gI hv1, v_pk hv1, gn1, c5, e3, c7, bd2_some, bdx_inl, bdx_inr, bdc_inl, bdc_inr, obd_some, ↓reduceIte]
      · rw [if_pos c6]
        exact zCR_al hr gp1 (by rw [q2.2 v (by omega)]) (by rw [q2.2 v (by omega)]) rows1 (fun i hi => q3.2.2.2.1 i hi)
    · have hP1 := c2.resolve_left c6
      have c7 : smin (fun i => aL r i - 1) (aN r - 1) = 0 := by
        obtain ⟨i, i1, i2⟩ := (smin_lt (L := aL r) (t := 2) (aN r - 1)).mp (hs.mpr c6)
        have := (smin_lt (L := fun i => aL r i - 1) (t := 1) (aN r - 1)).mpr ⟨i, i1, by show aL r i - 1 < 1; omega⟩
        omega
      rw [c7] at e3
      have e4 : nI (aP r) - nI 1 = nI (aP r - 1) := nI_sub1 hP
      have hR1 : zRf z (sI S1 v 0 (nI (aP r - 1))) p rf := by
        refine zRf_of ?_ ?_ hR
        · rw [mI_sI_r, if_neg (by omega), q2.2 _ (by omega)]
        · rw [mI_sI_r, if_neg (by omega), q2.2 _ (by omega)]
      have hL0 := h.2.2.1.2.1
      have hL01 := (h.2.1.1 0 (by omega)).1
      have e5 := c_packed (S := sI S1 v 0 (nI (aP r - 1))) (p := aP r - 1) (ln := 1) (by rw [zSt_sI]; exact hS1) hR1 h4 hp (by omega) (by omega) (by omega)
      have e6 : rn rf (aP r - 1) 1 = rf (aP r - 1) := by simp [rn]
      rw [e6] at e5
      have hv2 : zVar (sI S1 v 0 (nI (aP r - 1))) v := hv1
      have hS2 : zSt z (sI S1 v 0 (nI (aP r - 1))) := hS1
      have hA2 : zAl (sI S1 v 0 (nI (aP r - 1))) v (aN r) (fun i => aL r i - 1) (fun i => aB r i / 4) := by
        refine ⟨hv2, ?_, hn4, fun i hi => ?_⟩
        · rw [mI_sI, if_neg (by omega)]; exact gn1
        · have := hA1.2.2.2 i hi
          simp only [mI_sI]
          rw [if_neg (by omega), if_neg (by omega)]
          exact this
      obtain ⟨S3, w1, w2, w3⟩ := c_putF_L (v := v) (base := rf (aP r - 1)) (h4 _) (n := aN r) (L := fun i => aL r i - 1) (B := fun i => aB r i / 4) (by
        intro i hi
        obtain ⟨a, b, c⟩ := h.2.1.1 i hi
        refine ⟨by show aL r i - 1 ≤ 7; omega, ?_⟩
        show aB r i / 4 < 4 ^ (aL r i - 1)
        obtain ⟨l, e⟩ : ∃ l, aL r i = l + 1 := ⟨aL r i - 1, by omega⟩
        rw [e, p4_s] at c
        rw [e, Nat.add_sub_cancel]
        omega) (aN r) FU 0 _ (zPs_0 hA2) (by omega) (by show aN r < 4000; omega)
      have w2' : zFr v (v + 7) (sI S1 v 0 (nI (aP r - 1))) S3 := zFr_mono w2 (by omega) (by omega)
      refine ⟨S3, ?_, zFr_trans q2' (zFr_trans (zFr_sI (by omega) (by omega)) w2'), ?_⟩
      · rw [go]
        have w1' : F_X4_putInFront v (nI (rf (aP r - 1))) (sI S1 v 0 (nI (aP r - 1))) = some S3 := w1
        simp only [F_X4_trimEnd_L27, l_0, l_1, l_2, l_3, l_4, l_5, l_6, l_7, l_8, l_9, l_10, l_11, l_12, l_13, l_14, l_15, l_16, l_17, l_18, l_19, l_20, l_21, l_24, l_25, l_26, l_27, l_31, l_33, l_41, l_65, l_67, l_71, l_84, l_120, l_127, l_128, l_130, l_160, l_162, l_200, l_255, l_256, l_999, l_1000, l_8000, l_9999, l_10000, l_8001, l_m1, v_gI hv1, v_pI hv1, v_pk hv1, gn1, c5, e3, gp1, e4, v_gI hv2, v_pk hv2, mI_sI, and_self, t_k0, t_g0, t_p0, t_z0, t_k1, t_g1, t_p1, t_z1, t_k3, t_g3, t_p3, t_z3, t_k187, t_g187, t_p187, t_z187, t_k210, t_g210, t_p210, t_z210, t_k212, t_g212, t_p212, t_z212, t_k214, t_g214, t_p214, t_z214, t_r0_0, t_r0_1, t_r0_2, t_r0_4, t_r0_5, t_r0_6, t_r0_7, t_r1_0, t_r3_0, t_r187_0, t_r187_1, t_r187_2, t_r187_3, t_r210_0, t_r212_0, t_r214_1, t_r214_5, t_r214_6, t_r214_8, t_r214_10, t_a2, t_s2, t_a209, t_s209, t_a211, t_s211, t_a213, t_s213, t_a215, t_s215, t_a216, t_s216, t_a217, t_s217, t_a218, t_s218, t_a219, t_s219, t_a4, t_s4, zSt_sI, zSt_sF, zSt_zI, zSt_sJ, zSt_sD, zBo_0, zBo_1, hS1, e5, w1', bd2_some, bdx_inl, bdx_inr, bdc_inl, bdc_inr, obd_some, ↓reduceIte]
      · rw [if_neg c6]
        refine zCR_al hr ?_ ?_ ?_ ?_ ?_
        · rw [w2.2 v (by omega), mI_sI, if_pos ⟨rfl, rfl⟩]
        · rw [w2.2 v (by omega), mI_sI, if_neg (by omega), q2.2 v (by omega)]
        · rw [w2.2 v (by omega), mI_sI, if_neg (by omega), q2.2 v (by omega)]
        · intro t h1 h2
          rw [w2.2 _ (by omega), mI_sI_r, if_neg (by omega), rows1 t h1 h2]
        · intro i hi
          have := w3.2.2.2.1 i hi
          have hl := (h.2.1.1 i hi).1
          refine ⟨this.1, ?_⟩
          rw [this.2]
          show nI (aL r i - 1 + 1) = nI (aL r i)
          rw [show aL r i - 1 + 1 = aL r i by omega]
theorem c_trimFront {p : Nat} {rf : Nat → Nat} (hp : p ≤ 160) (hv : zVar S v) (hr : zCR S v r) (h : aOk p rf r) :
    (¬ (aTwo (aN r) (aL r) = true ∧ aFst (aN r) (aL r) (aB r) = true) → F_X4_trimFront v S = some (nI 0, S)) ∧
    ((aTwo (aN r) (aL r) = true ∧ aFst (aN r) (aL r) (aB r) = true) → ∃ S', F_X4_trimFront v S = some (nI 1, S') ∧ zFr v (v + 7) S S' ∧ zCR S' v (wAl r (aP r + 1) (fun i => aL r i - 1) (fun i => aB r i % 4 ^ (aL r i - 1)))) := by
  have hA := zAl_ok hv hr h
  have hn := h.1.1
  have hn4 := h.1.2
  have e2 := c_short hA (by omega)
  have e1 := c_fst hA (fun i hi => (h.2.1.1 i hi).1) (by omega)
  have hs := two_smin (n := aN r) (L := aL r) (by omega)
  have hP2 := (ok31 hp h).1
  have h8 : smin (aL r) (aN r - 1) ≤ 8 := by
    have h0 := (h.2.1.1 0 (by omega)).2.1
    have := (smin_lt (L := aL r) (t := 9) (aN r - 1)).mpr ⟨0, by omega, by omega⟩
    omega
  constructor
  · intro c
    by_cases c1 : aTwo (aN r) (aL r) = true
    · have c2 : ¬ aFst (aN r) (aL r) (aB r) = true := fun q => c ⟨c1, q⟩
      have c3 : ¬ nI (smin (aL r) (aN r - 1)) < nI 2 := nI_nlt (Nat.not_lt.mp (fun q => hs.mp q c1)) (by omega)
      rw [if_neg c2] at e1
      simp only [F_X4_trimFront, l_0, l_1, l_2, l_3, l_4, l_5, l_6, l_7, l_8, l_9, l_10, l_11, l_12, l_13, l_14, l_15, l_16, l_17, l_18, l_19, l_20, l_21, l_24, l_25, l_26, l_27, l_31, l_33, l_41, l_65, l_67, l_71, l_84, l_120, l_127, l_128, l_130, l_160, l_162, l_200, l_255, l_256, l_999, l_1000, l_8000, l_9999, l_10000, l_8001, l_m1, v_pk hv, e2, c3, e1, bd2_some, bdx_inl, bdx_inr, bdc_inl, bdc_inr, obd_some, ↓reduceIte]
    · have c3 : nI (smin (aL r) (aN r - 1)) < nI 2 := nI_lt (hs.mpr c1) (by omega)
      simp only [F_X4_trimFront, l_0, l_1, l_2, l_3, l_4, l_5, l_6, l_7, l_8, l_9, l_10, l_11, l_12, l_13, l_14, l_15, l_16, l_17, l_18, l_19, l_20, l_21, l_24, l_25, l_26, l_27, l_31, l_33, l_41, l_65, l_67, l_71, l_84, l_120, l_127, l_128, l_130, l_160, l_162, l_200, l_255, l_256, l_999, l_1000, l_8000, l_9999, l_10000, l_8001, l_m1, v_pk hv, e2, c3, bd2_some, bdx_inl, bdx_inr, bdc_inl, bdc_inr, obd_some, ↓reduceIte]
  · rintro ⟨c1, c2⟩
    have c3 : ¬ nI (smin (aL r) (aN r - 1)) < nI 2 := nI_nlt (Nat.not_lt.mp (fun q => hs.mp q c1)) (by omega)
    rw [if_pos c2] at e1
    obtain ⟨S1, q1, q2, q3⟩ := c_tFr_L (fun i hi => (h.2.1.1 i hi).1) (aN r) FU 0 S (zPs_0 (L' := fun i => aL r i - 1) (B' := fun i => aB r i % 4 ^ (aL r i - 1)) hA) (by omega) (by show aN r < 4000; omega)
    have q2' : zFr v (v + 7) S S1 := zFr_mono q2 (by omega) (by omega)
    have gp1 : mI S1 v 0 = nI (aP r) := by rw [q2.2 v (by omega)]; exact hr.1.1
    refine ⟨sI S1 v 0 (mI S1 v 0 + nI 1), ?_, zFr_trans q2' (zFr_sI (by omega) (by omega)), ?_⟩
    · simp only [F_X4_trimFront, l_0, l_1, l_2, l_3, l_4, l_5, l_6, l_7, l_8, l_9, l_10, l_11, l_12, l_13, l_14, l_15, l_16, l_17, l_18, l_19, l_20, l_21, l_24, l_25, l_26, l_27, l_31, l_33, l_41, l_65, l_67, l_71, l_84, l_120, l_127, l_128, l_130, l_160, l_162, l_200, l_255, l_256, l_999, l_1000, l_8000, l_9999, l_10000, l_8001, l_m1, v_pk hv, e2, c3, e1, ne10, bd2_some, bdx_inl, bdx_inr, bdc_inl, bdc_inr, obd_some, ↓reduceIte]
      exact q1
    · refine zCR_al hr ?_ ?_ ?_ ?_ ?_
      · rw [mI_sI, if_pos ⟨rfl, rfl⟩, gp1, nI_add]
      · rw [mI_sI, if_neg (by omega), q2.2 v (by omega)]
      · rw [mI_sI, if_neg (by omega), q2.2 v (by omega)]
      · intro t h1 h2
        rw [mI_sI_r, if_neg (by omega), q2.2 _ (by omega)]
      · intro i hi
        have := q3.2.2.2.1 i hi
        rw [mI_sI, if_neg (by omega), mI_sI, if_neg (by omega)]
        exact this
theorem c_trim_L {p : Nat} {rf : Nat → Nat} (h4 : ∀ i, rf i < 4) (hp : p ≤ 160) (hvz : z + 3 ≤ v) : ∀ (m fu j : Nat) (S : Mem) (r : Rc), zSt z S → zVar S v → zRf z S p rf → zCR S v r → aOk p rf r → j + m = 1000 → m + 1 < fu →
    ∃ S', F_X4_trim_L4 fu v (z + 1) (nI 1) (nI j) S = some S' ∧ zFr v (v + 7) S S' ∧ zCR S' v (rTrim rf m r) := by
  intro m
  induction m with
  | zero =>
    intro fu j S r hS hv hR hr h hj hf
    obtain ⟨fu, rfl⟩ : ∃ f, fu = f + 1 := ⟨fu - 1, by omega⟩
    have c1 : nI 1000 ≤ nI j := nI_le (by omega) (by omega)
    refine ⟨S, ?_, zFr_refl, hr⟩
    simp only [F_X4_trim_L4, l_0, l_1, l_2, l_3, l_4, l_5, l_6, l_7, l_8, l_9, l_10, l_11, l_12, l_13, l_14, l_15, l_16, l_17, l_18, l_19, l_20, l_21, l_24, l_25, l_26, l_27, l_31, l_33, l_41, l_65, l_67, l_71, l_84, l_120, l_127, l_128, l_130, l_160, l_162, l_200, l_255, l_256, l_999, l_1000, l_8000, l_9999, l_10000, l_8001, l_m1, ne10, c1, ↓reduceIte]
  | succ m ih =>
    intro fu j S r hS hv hR hr h hj hf
    obtain ⟨fu, rfl⟩ : ∃ f, fu = f + 1 := ⟨fu - 1, by omega⟩
    have c1 : ¬ nI 1000 ≤ nI j := nI_ge (by omega) (by omega)
    obtain ⟨E0, E1⟩ := c_trimEnd h4 hp hS hv hvz hR hr h
    obtain ⟨F0, F1⟩ := c_trimFront hp hv hr h
    have fin : ∀ S1 r', rStep rf r = some r' → zFr v (v + 7) S S1 → zCR S1 v r' → ∃ S', F_X4_trim_L4 fu v (z + 1) (nI 1) (nI (j + 1)) S1 = some S' ∧ zFr v (v + 7) S S' ∧ zCR S' v (rTrim rf (m + 1) r) := by
      intro S1 r' hst hF hr1
      have hok := (step_ok h4 h hst).1
      obtain ⟨S', q1, q2, q3⟩ := ih fu (j + 1) S1 r' (zSt_Fr hF hS) (zVar_Fr hF hv) (zRf_of (hF.2 _ (by omega)) (hF.2 _ (by omega)) hR) hr1 hok (by omega) (by omega)
      refine ⟨S', q1, zFr_trans hF q2, ?_⟩
      have : rTrim rf (m + 1) r = rTrim rf m r' := by
        rw [rTrim, hst]
      rw [this]; exact q3
    by_cases c2 : aEnd (aN r) (aB r) = true ∧ (aTwo (aN r) (aL r) = true ∨ 1 < aP r)
    · obtain ⟨S1, q1, q2, q3⟩ := E1 c2
      obtain ⟨S', w1, w2, w3⟩ := fin S1 (if aTwo (aN r) (aL r) = true then wAl r (aP r) (fun i => aL r i - 1) (fun i => aB r i / 4) else wAl r (aP r - 1) (aL r) (fun i => aB r i / 4 + rf (aP r - 1) * 4 ^ (aL r i - 1))) (by
        unfold rStep
        rw [if_pos c2]
        by_cases c3 : aTwo (aN r) (aL r) = true
        · rw [if_pos c3, if_pos c3]
        · rw [if_neg c3, if_neg c3]) q2 q3
      refine ⟨S', ?_, w2, w3⟩
      simp only [F_X4_trim_L4, F_X4_trim_J30, F_X4_trim_J35, l_0, l_1, l_2, l_3, l_4, l_5, l_6, l_7, l_8, l_9, l_10, l_11, l_12, l_13, l_14, l_15, l_16, l_17, l_18, l_19, l_20, l_21, l_24, l_25, l_26, l_27, l_31, l_33, l_41, l_65, l_67, l_71, l_84, l_120, l_127, l_128, l_130, l_160, l_162, l_200, l_255, l_256, l_999, l_1000, l_8000, l_9999, l_10000, l_8001, l_m1, ne10, c1, v_pk hv, q1, bd2_some, bdx_inl, bdx_inr, bdc_inl, bdc_inr, obd_some, ↓reduceIte, nI_add]
      exact w1
    · have q1 := E0 c2
      by_cases c3 : aTwo (aN r) (aL r) = true ∧ aFst (aN r) (aL r) (aB r) = true
      · obtain ⟨S1, q4, q2, q3⟩ := F1 c3
        obtain ⟨S', w1, w2, w3⟩ := fin S1 _ (by
          unfold rStep
          rw [if_neg c2, if_pos c3]) q2 q3
        refine ⟨S', ?_, w2, w3⟩
        simp only [F_X4_trim_L4, F_X4_trim_J30, F_X4_trim_J35, l_0, l_1, l_2, l_3, l_4, l_5, l_6, l_7, l_8, l_9, l_10, l_11, l_12, l_13, l_14, l_15, l_16, l_17, l_18, l_19, l_20, l_21, l_24, l_25, l_26, l_27, l_31, l_33, l_41, l_65, l_67, l_71, l_84, l_120, l_127, l_128, l_130, l_160, l_162, l_200, l_255, l_256, l_999, l_1000, l_8000, l_9999, l_10000, l_8001, l_m1, ne10, c1, v_pk hv, q1, q4, bd2_some, bdx_inl, bdx_inr, bdc_inl, bdc_inr, obd_some, ↓reduceIte, nI_add]
        exact w1
      · have q4 := F0 c3
        have z0 : F_X4_trim_L4 fu v (z + 1) (nI 0) (nI (j + 1)) S = some S := by
          clear fin
          obtain ⟨fu2, rfl⟩ : ∃ f, fu = f + 1 := ⟨fu - 1, by omega⟩
          simp only [F_X4_trim_L4, l_0, l_1, l_2, l_3, l_4, l_5, l_6, l_7, l_8, l_9, l_10, l_11, l_12, l_13, l_14, l_15, l_16, l_17, l_18, l_19, l_20, l_21, l_24, l_25, l_26, l_27, l_31, l_33, l_41, l_65, l_67, l_71, l_84, l_120, l_127, l_128, l_130, l_160, l_162, l_200, l_255, l_256, l_999, l_1000, l_8000, l_9999, l_10000, l_8001, l_m1, ↓reduceIte]
        refine ⟨S, ?_, zFr_refl, ?_⟩
        · simp only [F_X4_trim_L4, F_X4_trim_J30, F_X4_trim_J35, l_0, l_1, l_2, l_3, l_4, l_5, l_6, l_7, l_8, l_9, l_10, l_11, l_12, l_13, l_14, l_15, l_16, l_17, l_18, l_19, l_20, l_21, l_24, l_25, l_26, l_27, l_31, l_33, l_41, l_65, l_67, l_71, l_84, l_120, l_127, l_128, l_130, l_160, l_162, l_200, l_255, l_256, l_999, l_1000, l_8000, l_9999, l_10000, l_8001, l_m1, ne10, c1, v_pk hv, q1, q4, bd2_some, bdx_inl, bdx_inr, bdc_inl, bdc_inr, obd_some, ↓reduceIte, nI_add]
          exact z0
        · have : rStep rf r = none := by
            unfold rStep
            rw [if_neg c2, if_neg c3]
          rw [rTrim, this]
          exact hr
theorem C_normalise {i : Int32} (hs : xOk s) (h : zCl z s S) : ∃ S', F_L_normalise z i (z + 220) S = some ((o_normalise s i).1, S') ∧ zCl z (o_normalise s i).2.2 S' ∧ zCf z S S' ∧ ((o_normalise s i).1 = nI 0 → mJ S' (z + 220) 0 = (o_normalise s i).2.1.toInt64) := by
  obtain ⟨hS, ⟨pp, hL⟩, hR, hD, hT⟩ := id h
  have hl24 := hs.2.2.2.2.1
  have hreq := c_req (i := i) hS hL.2.1
  by_cases c : i < nI 0 ∨ nI (xL s).length ≤ i
  · rw [if_pos c] at hreq
    rw [show o_normalise s i = (nI 1, nI 0, s) from if_pos c]
    refine ⟨S, ?_, h, zCf_refl hS, fun e => absurd e ne10⟩
    simp only [F_L_normalise, F_X5_normalise, l_0, l_1, l_2, l_3, l_4, l_5, l_6, l_7, l_8, l_9, l_10, l_11, l_12, l_13, l_14, l_15, l_16, l_17, l_18, l_19, l_20, l_21, l_24, l_25, l_26, l_27, l_31, l_33, l_41, l_65, l_67, l_71, l_84, l_120, l_127, l_128, l_130, l_160, l_162, l_200, l_255, l_256, l_999, l_1000, l_8000, l_9999, l_10000, l_8001, l_m1, t_k0, t_g0, t_p0, t_z0, t_k1, t_g1, t_p1, t_z1, t_k3, t_g3, t_p3, t_z3, t_k187, t_g187, t_p187, t_z187, t_k210, t_g210, t_p210, t_z210, t_k212, t_g212, t_p212, t_z212, t_k214, t_g214, t_p214, t_z214, t_r0_0, t_r0_1, t_r0_2, t_r0_4, t_r0_5, t_r0_6, t_r0_7, t_r1_0, t_r3_0, t_r187_0, t_r187_1, t_r187_2, t_r187_3, t_r210_0, t_r212_0, t_r214_1, t_r214_5, t_r214_6, t_r214_8, t_r214_10, t_a2, t_s2, t_a209, t_s209, t_a211, t_s211, t_a213, t_s213, t_a215, t_s215, t_a216, t_s216, t_a217, t_s217, t_a218, t_s218, t_a219, t_s219, t_a4, t_s4, zSt_sI, zSt_sF, zSt_zI, zSt_sJ, zSt_sD, zBo_0, zBo_1, hS, bd2_some, bdx_inl, bdx_inr, bdc_inl, bdc_inr, obd_some, hreq, ↓reduceIte]
  rw [if_neg c] at hreq
  have cs := c
  obtain ⟨i', rfl, -, b3⟩ := in_of' (by omega) (fun e => c (Or.inl e)) (fun e => c (Or.inr e)) (by omega)
  have t1 : tn (nI i') = i' := tn_nI (by omega)
  obtain ⟨g1, g2⟩ := xAt_ok hs b3
  obtain ⟨p1, p2⟩ := hL.1.1 i' (by omega)
  have hi24 : i' < 24 := by omega
  have hv : zVar S (z + 5 + 7 * pp i') := t_vi hS (by omega)
  have hr := hL.2.2 i' _ g1
  have o1 := ok31 hs.1 g2
  obtain ⟨S1, q1, q2, q3⟩ := c_copy (v := z + 180) (v_sc hS) hv (by omega) hr o1.2.2.1 o1.2.2.2
  have hS1 := zSt_Fr q2 hS
  have hR1 : zRf z S1 (xP s) (xF s) := zRf_of (q2.2 _ (by omega)) (q2.2 _ (by omega)) hR
  obtain ⟨S2, r1, r2, r3⟩ := c_trim_L (z := z) (v := z + 180) hs.2.1 hs.1 (by omega) 1000 FU 0 S1 (xAt s i') hS1 (v_sc hS1) hR1 q3 g2 (by omega) (by show 1000 + 1 < 4000; omega)
  have hS2 := zSt_Fr r2 hS1
  have f2 : zFr (z + 180) (z + 187) S S2 := zFr_mono (zFr_trans q2 r2) (by omega) (by omega)
  have hL2 : zLv z S2 pp (xL s) := zLv_of (by rw [zFr_R f2]) (fun a h1 h2 => f2.2 a (by omega)) hl24 hL
  obtain ⟨S3, p3, u1, u2, u3, u4, u5⟩ := c_erase hS2 hL2 b3 hl24
  have hS3 := u2.1
  have hok := trim_ok hs.2.1 1000 _ g2
  have o2 := ok31 hs.1 hok
  have hlen : ((xL s).eraseIdx i').length < 24 := by rw [List.length_eraseIdx_of_lt b3]; omega
  obtain ⟨S4, p4, w1, w2, w3⟩ := c_insert (w := z + 180) (r := rTrim (xF s) 1000 (xAt s i')) hS3 u4 hlen (fun T hT => v_sc hT) (by omega) (zCR_of (S := S2) (v := z + 180) (fun t ht => u3 _ (by omega)) r3) o2.2.2.1 o2.2.2.2 o2.2.1 (fun t ht => (ok31 hs.1 (hs.2.2.2.1 t (List.mem_of_mem_eraseIdx ht))).2.1)
  have hS4 := w2.1
  have r1' : F_X4_trim (z + 180) (z + 1) S1 = some S2 := r1
  rw [show o_normalise s (nI i') = (nI 0, nI (ipos ((xL s).eraseIdx i') (aP (rTrim (xF s) 1000 (xAt s i')))), wList s (insR ((xL s).eraseIdx i') (rTrim (xF s) 1000 (xAt s i')))) from by unfold o_normalise; rw [if_neg cs, t1]]
  have rows : ∀ a, (a < z + 3 ∨ z + 173 ≤ a) → (a < z + 180 ∨ z + 187 ≤ a) → mI S4 a = mI S a := by
    intro a h1 h2
    rw [w2.2.1 a h1, u3 a (by omega), f2.2 a (by omega)]
  refine ⟨sJ S4 (z + 220) 0 (nI (ipos ((xL s).eraseIdx i') (aP (rTrim (xF s) 1000 (xAt s i'))))).toInt64, ?_, zCl_sJ ?_, zCf_sJ ⟨hS4, fun a ha => rows a (by omega) (by omega)⟩, fun _ => mJ_sJ⟩
  · simp only [F_L_normalise, F_X5_normalise, l_0, l_1, l_2, l_3, l_4, l_5, l_6, l_7, l_8, l_9, l_10, l_11, l_12, l_13, l_14, l_15, l_16, l_17, l_18, l_19, l_20, l_21, l_24, l_25, l_26, l_27, l_31, l_33, l_41, l_65, l_67, l_71, l_84, l_120, l_127, l_128, l_130, l_160, l_162, l_200, l_255, l_256, l_999, l_1000, l_8000, l_9999, l_10000, l_8001, l_m1, t_k0, t_g0, t_p0, t_z0, t_k1, t_g1, t_p1, t_z1, t_k3, t_g3, t_p3, t_z3, t_k187, t_g187, t_p187, t_z187, t_k210, t_g210, t_p210, t_z210, t_k212, t_g212, t_p212, t_z212, t_k214, t_g214, t_p214, t_z214, t_r0_0, t_r0_1, t_r0_2, t_r0_4, t_r0_5, t_r0_6, t_r0_7, t_r1_0, t_r3_0, t_r187_0, t_r187_1, t_r187_2, t_r187_3, t_r210_0, t_r212_0, t_r214_1, t_r214_5, t_r214_6, t_r214_8, t_r214_10, t_a2, t_s2, t_a209, t_s209, t_a211, t_s211, t_a213, t_s213, t_a215, t_s215, t_a216, t_s216, t_a217, t_s217, t_a218, t_s218, t_a219, t_s219, t_a4, t_s4, zSt_sI, zSt_sF, zSt_zI, zSt_sJ, zSt_sD, zBo_0, zBo_1, hS, hS1, hS2, hS3, bd2_some, bdx_inl, bdx_inr, bdc_inl, bdc_inr, obd_some, hreq, hi24, p2, v_pk (v_sc hS), v_pk (v_sc hS1), q1, r1', u1, w1, t_sJ hS4]
  · exact zCl_list h hS4 ⟨p4, w3⟩ (fun a ha => rows a (by omega) (by omega))
end C7
