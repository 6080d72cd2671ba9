set_option maxRecDepth 20000
/-- joining: row 25 holds R, the numbers of the alleles are O, all else is as in S0 -/
def zJ (z : Nat) (S0 S : Mem) (R O : Nat → Int32) : Prop := ∃ T, zFr (z + 219) (z + 220) S0 T ∧ zR5 z T S R ∧ ∀ k, k < 8 → mI S (z + 219) k = O k
section M18
variable {S S' S0 S1 S2 T : Mem} {z n a b i j k o o' e q x m v : Nat} {r : Rc} {s : As} {W W' R O : Nat → Int32} {ls : List Rc} {L B w : Nat → Nat} {y1 y2 : Int32}
theorem zJ_St (h : zJ z S0 S R O) : zSt z S := by
  obtain ⟨T, h1, h2, h3⟩ := h
  exact h2.1
theorem zJ_put (h : zJ z S0 S R O) (hk : k < 41) : ∃ S', F_X6_put (z + 214) (nI 25) (nI k) y1 S = some S' ∧ zJ z S0 S' (va_up R k y1) O := by
  obtain ⟨T, h1, h2, h3⟩ := h
  obtain ⟨S1, p1, pp2⟩ := r5_put (x := y1) h2 hk
  refine ⟨S1, p1, T, h1, pp2, fun k hk => ?_⟩
  rw [pp2.2.1.1.2 (z + 219) (by omega), ← h2.2.1.1.2 (z + 219) (by omega)]
  exact h3 k hk
theorem zJ_get (h : zJ z S0 S R O) (hq : q ≠ 25) (hq2 : q < 30) (hk : k < 41) : F_X6_get (z + 214) (nI q) (nI k) S = some (mI S0 (z + 216) (41 * q + k), S) := by
  obtain ⟨T, h1, h2, h3⟩ := h
  rw [r5_get h2 hq hq2 hk, h1.2 _ (by omega)]
theorem zJ_get5 (h : zJ z S0 S R O) (hk : k < 41) : F_X6_get (z + 214) (nI 25) (nI k) S = some (R k, S) := by
  obtain ⟨T, h1, h2, h3⟩ := h
  exact r5_get5 h2 hk
theorem zJ_add (h : zJ z S0 S R O) (hA : R 1 = nI n) (h4 : n < 4) : ∃ S', F_X6_addAllele (z + 214) (nI 25) y1 y2 S = some S' ∧ zJ z S0 S' (fun k => if k = 1 then nI (n + 1) else if k = 6 + n then y2 else if k = 2 + n then y1 else R k) O := by
  obtain ⟨T, h1, h2, h3⟩ := h
  obtain ⟨S1, p1, pp2⟩ := r5_add (x := y1) (y := y2) h2 hA h4
  refine ⟨S1, p1, T, h1, pp2, fun k hk => ?_⟩
  rw [pp2.2.1.1.2 (z + 219) (by omega), ← h2.2.1.1.2 (z + 219) (by omega)]
  exact h3 k hk
theorem zJ_a (h : zJ z S0 S R O) (hk : k < 8) : paI S (z + 219) (nI k) = some (O k) := by
  obtain ⟨T, h1, h2, h3⟩ := h
  rw [t_a219 h2.1 hk, h3 k hk]
theorem zJ_of (h : zJ z S0 S R O) (hk : k < 8) : ∃ S', psI S (z + 219) (nI k) y1 = some S' ∧ zJ z S0 S' R (va_up O k y1) := by
  obtain ⟨T, h1, h2, h3⟩ := h
  refine ⟨_, t_s219 h2.1 hk, sI T (z + 219) k y1, zFr_trans h1 (zFr_sI (by omega) (by omega)), ⟨h2.1, ⟨⟨?_, fun a ha => ?_⟩, ?_, fun q hq => ?_⟩, ?_, fun k' hk' => ?_, fun q k' hq hk' => ?_⟩, fun k' hk' => ?_⟩
  · have e := h2.2.1.1.1
    refine z_ext ?_ ?_ ?_ ?_ ?_ ?_ ?_ ?_
    all_goals first | rfl | (rw [e]; rfl)
  · rw [mI_sI_r, mI_sI_r]
    by_cases c : a = z + 219
    · rw [if_pos c, if_pos c, h2.2.1.1.2 _ (by omega)]
    · rw [if_neg c, if_neg c, h2.2.1.1.2 a ha]
  · rw [mI_sI_r, if_neg (by omega), mI_sI_r, if_neg (by omega)]; exact h2.2.1.2.1
  · rw [mI_sI_r, if_neg (by omega), mI_sI_r, if_neg (by omega)]; exact h2.2.1.2.2 q hq
  · rw [mI_sI_r, if_neg (by omega), mI_sI_r, if_neg (by omega)]; exact h2.2.2.1
  · rw [mI_sI_r, if_neg (by omega)]; exact h2.2.2.2.1 k' hk'
  · rw [mI_sI_r, if_neg (by omega), mI_sI_r, if_neg (by omega)]; exact h2.2.2.2.2 q k' hq hk'
  · rw [mI_sI]
    by_cases c : k' = k
    · subst c; rw [if_pos ⟨rfl, rfl⟩]; simp only [va_up, ↓reduceIte]
    · rw [if_neg (fun w => c w.2), h3 k' hk']; simp only [va_up, c, ↓reduceIte]
theorem zJ_find {l c : Nat} (h : zJ z S0 S R O) (hA : zAr R n L B) (h4 : n ≤ 4) (hl : l < 2147483648) (hc : c < 2147483648) : F_X6_findAllele (z + 214) (nI 25) (nI l) (nI c) S = some (fI (fnd n L B l c), S) := by
  obtain ⟨T, h1, h2, h3⟩ := h
  have hW := h2.2.2.2.1
  refine m_find h2.1 (by omega) (by rw [hW 1 (by omega)]; exact hA.1) h4 (fun j hj => ?_) hc hl
  obtain ⟨s1, s2, s3, s4, s5⟩ := hA.2 j hj
  rw [hW _ (by omega), hW _ (by omega)]
  exact ⟨s1, s2, by omega, by omega⟩
theorem fndA_lt {l c : Nat} : ∀ (m j : Nat), (∀ i, j ≤ i → i < j + m → ¬ (L i = l ∧ B i = c)) → L (j + m) = l → B (j + m) = c → fndA n L B l c (m + 1) j = some (j + m) := by
  intro m
  induction m with
  | zero =>
    intro j h h1 h2
    rw [fndA, if_pos ⟨h1, h2⟩]
    rfl
  | succ m ih =>
    intro j h h1 h2
    rw [fndA, if_neg (h j (by omega) (by omega))]
    rw [show j + (m + 1) = j + 1 + m by omega] at h1 h2 ⊢
    exact ih (j + 1) (fun i hi1 hi2 => h i (by omega) (by omega)) h1 h2
theorem fnd_new {l c : Nat} (h : fnd n L B l c = none) : fnd (n + 1) (va_up L n l) (va_up B n c) l c = some n := by
  rw [fnd_none] at h
  have := fndA_lt (n := n + 1) (L := va_up L n l) (B := va_up B n c) (l := l) (c := c) n 0 (fun i _ hi => by
    have e : ¬ i = n := by omega
    simp only [va_up, e, ↓reduceIte]
    exact h i (by omega)) (by simp only [va_up, Nat.zero_add, ↓reduceIte]) (by simp only [va_up, Nat.zero_add, ↓reduceIte])
  rw [Nat.zero_add] at this
  exact this
theorem zAr_up {l c : Nat} (hA : zAr R n L B) (h1 : 1 ≤ l) (h8 : l ≤ 8) (hc : c < 65536) (hn : n < 4) : zAr (fun k => if k = 1 then nI (n + 1) else if k = 6 + n then nI c else if k = 2 + n then nI l else R k) (n + 1) (va_up L n l) (va_up B n c) := by
  refine ⟨rfl, fun j hj => ?_⟩
  by_cases cj : j = n
  · subst cj
    refine ⟨?_, ?_, ?_, ?_, ?_⟩
    · dsimp only; rw [if_neg (by omega), if_pos rfl]; simp only [va_up, ↓reduceIte]
    · dsimp only; rw [if_neg (by omega), if_neg (by omega), if_pos rfl]; simp only [va_up, ↓reduceIte]
    · simp only [va_up, ↓reduceIte]; exact h1
    · simp only [va_up, ↓reduceIte]; exact h8
    · simp only [va_up, ↓reduceIte]; exact hc
  · obtain ⟨s1, s2, s3, s4, s5⟩ := hA.2 j (by omega)
    refine ⟨?_, ?_, ?_, ?_, ?_⟩
    · dsimp only; rw [if_neg (by omega), if_neg (by omega), if_neg (by omega), s1]; simp only [va_up, cj, ↓reduceIte]
    · dsimp only; rw [if_neg (by omega), if_neg (by omega), if_neg (by omega), s2]; simp only [va_up, cj, ↓reduceIte]
    · simp only [va_up, cj, ↓reduceIte]; exact s3
    · simp only [va_up, cj, ↓reduceIte]; exact s4
    · simp only [va_up, cj, ↓reduceIte]; exact s5
/-- one allele is gathered -/
theorem m_gst {fu d rest : Nat} (h : zJ z S0 S R O) (hq : q < 24) (hr : zMR (mI S0 (z + 216)) (41 * q) r) (n4r : aN r ≤ 4) (ha : a < aN r) (hv : v < 2) (hal : 1 ≤ aL r a ∧ aL r a ≤ 8 ∧ aB r a < 4 ^ aL r a) (hd : d ≤ 8) (hrest : rest < 4 ^ d) (hA : zAr R n L B) (h4 : n ≤ 4) :
    (8 < aL r a + d → F_X6_gather_L45 (fu + 1) (z + 214) (nI q) (nI v) (nI d) (nI rest) (nI a) S = some (nI 0, S)) ∧
    (aL r a + d ≤ 8 → (∀ k, fnd n L B (aL r a + d) (aB r a * 4 ^ d + rest) = some k → ∃ S', F_X6_gather_L45 (fu + 1) (z + 214) (nI q) (nI v) (nI d) (nI rest) (nI a) S = F_X6_gather_L45 fu (z + 214) (nI q) (nI v) (nI d) (nI rest) (nI (a + 1)) S' ∧ zJ z S0 S' R (va_up O (4 * v + a) (nI k))) ∧
    (fnd n L B (aL r a + d) (aB r a * 4 ^ d + rest) = none → n = 4 → F_X6_gather_L45 (fu + 1) (z + 214) (nI q) (nI v) (nI d) (nI rest) (nI a) S = some (nI 0, S)) ∧
    (fnd n L B (aL r a + d) (aB r a * 4 ^ d + rest) = none → n < 4 → ∃ S' R', F_X6_gather_L45 (fu + 1) (z + 214) (nI q) (nI v) (nI d) (nI rest) (nI a) S = F_X6_gather_L45 fu (z + 214) (nI q) (nI v) (nI d) (nI rest) (nI (a + 1)) S' ∧ zJ z S0 S' R' (va_up O (4 * v + a) (nI n)) ∧ zAr R' (n + 1) (va_up L n (aL r a + d)) (va_up B n (aB r a * 4 ^ d + rest)) ∧ ∀ k, (k = 0 ∨ 10 ≤ k) → R' k = R k)) := by
  have hS := zJ_St h
  have c : ¬ nI (aN r) ≤ nI a := nI_ge (by omega) (by omega)
  have g1 := zJ_get h (q := q) (k := 1) (by omega) (by omega) (by omega)
  have g2 := zJ_get h (q := q) (k := 2 + a) (by omega) (by omega) (by omega)
  have g6 := zJ_get h (q := q) (k := 6 + a) (by omega) (by omega) (by omega)
  rw [hr.1.2.2] at g1
  rw [(hr.2.1 a ha).2.1] at g2
  rw [(hr.2.1 a ha).1] at g6
  have p8 := p4_8 hal.2.1
  refine ⟨fun c1 => ?_, fun c1 => ?_⟩
  · have c1' : ¬ nI (aL r a + d) ≤ nI 8 := nI_ge c1 (by omega)
    simp only [F_X6_gather_L45, l_0, l_1, l_2, l_3, l_4, l_5, l_6, l_7, l_8, l_9, l_10, l_11, l_12, l_13, l_14, l_15, l_16, l_17, l_18, l_19, l_20, l_21, l_24, l_25, l_26, l_27, l_31, l_33, l_41, l_65, l_67, l_71, l_84, l_120, l_127, l_128, l_130, l_160, l_162, l_200, l_255, l_256, l_999, l_1000, l_8000, l_9999, l_10000, l_8001, l_m1, t_k214 hS, g1, c, nI_add, g2, c1', bd2_some, bdx_inl, bdx_inr, bdc_inl, bdc_inr, obd_some, ↓reduceIte]
  have fn : aL r a + d ≤ 8 → aB r a * 4 ^ d + rest < 65536 := by
    intro c1
    have e1 : aB r a * 4 ^ d + rest < 4 ^ (aL r a + d) := by
      rw [Nat.pow_add]
      have : (aB r a + 1) * 4 ^ d ≤ 4 ^ aL r a * 4 ^ d := Nat.mul_le_mul_right _ hal.2.2
      rw [Nat.add_mul, Nat.one_mul] at this
      omega
    have := p4_8 c1
    omega
  have blt := fn c1
  have c1' : nI (aL r a + d) ≤ nI 8 := nI_le c1 (by omega)
  have e1 : (nI (aB r a) <<< (nI (2 * d) &&& nI 31)) ||| nI rest = nI (aB r a * 4 ^ d + rest) := by
    rw [b_31 (by omega), b_shl (by omega), b_orAdd (show rest < 2 ^ (2 * d) by rw [four_two]; exact hrest), four_two]
  have fd := zJ_find (l := aL r a + d) (c := aB r a * 4 ^ d + rest) h hA h4 (by omega) (by omega)
  refine ⟨fun k ek => ?_, fun en e4 => ?_, fun en e4 => ?_⟩
  · rw [ek] at fd
    have hk := fnd_some ek
    have fd' : F_X6_findAllele (z + 214) (nI 25) (nI (aL r a + d)) (nI (aB r a * 4 ^ d + rest)) S = some (nI k, S) := fd
    have d5 : nI 0 ≤ nI k := nI_le (by omega) (by omega)
    obtain ⟨S1, p1, pp2⟩ := zJ_of (k := 4 * v + a) (y1 := nI k) h (by omega)
    refine ⟨S1, ?_, pp2⟩
    simp only [F_X6_gather_L45, F_X6_gather_J127, F_X6_gather_J142, l_0, l_1, l_2, l_3, l_4, l_5, l_6, l_7, l_8, l_9, l_10, l_11, l_12, l_13, l_14, l_15, l_16, l_17, l_18, l_19, l_20, l_21, l_24, l_25, l_26, l_27, l_31, l_33, l_41, l_65, l_67, l_71, l_84, l_120, l_127, l_128, l_130, l_160, l_162, l_200, l_255, l_256, l_999, l_1000, l_8000, l_9999, l_10000, l_8001, l_m1, t_k214 hS, g1, c, nI_add, nI_mul, g2, c1', g6, e1, fd', d5, t_r214_10 hS, p1, bd2_some, bdx_inl, bdx_inr, bdc_inl, bdc_inr, obd_some, ↓reduceIte]
  · rw [en] at fd
    have fd' : F_X6_findAllele (z + 214) (nI 25) (nI (aL r a + d)) (nI (aB r a * 4 ^ d + rest)) S = some (m1, S) := fd
    have d5 : ¬ nI 0 ≤ m1 := by decide
    have g5 := zJ_get5 h (k := 1) (by omega)
    rw [hA.1, e4] at g5
    simp only [F_X6_gather_L45, l_0, l_1, l_2, l_3, l_4, l_5, l_6, l_7, l_8, l_9, l_10, l_11, l_12, l_13, l_14, l_15, l_16, l_17, l_18, l_19, l_20, l_21, l_24, l_25, l_26, l_27, l_31, l_33, l_41, l_65, l_67, l_71, l_84, l_120, l_127, l_128, l_130, l_160, l_162, l_200, l_255, l_256, l_999, l_1000, l_8000, l_9999, l_10000, l_8001, l_m1, t_k214 hS, g1, c, nI_add, nI_mul, g2, c1', g6, e1, fd', d5, g5, bd2_some, bdx_inl, bdx_inr, bdc_inl, bdc_inr, obd_some, ↓reduceIte]
  · rw [en] at fd
    have fd' : F_X6_findAllele (z + 214) (nI 25) (nI (aL r a + d)) (nI (aB r a * 4 ^ d + rest)) S = some (m1, S) := fd
    have d5 : ¬ nI 0 ≤ m1 := by decide
    have g5 := zJ_get5 h (k := 1) (by omega)
    rw [hA.1] at g5
    have d6 : ¬ nI n = nI 4 := fun w => by have := (nI_eq (by omega) (by omega)).mp w; omega
    obtain ⟨S1, p1, pp2⟩ := zJ_add (y1 := nI (aL r a + d)) (y2 := nI (aB r a * 4 ^ d + rest)) h hA.1 e4
    have hS1 := zJ_St pp2
    have hA1 := zAr_up (l := aL r a + d) (c := aB r a * 4 ^ d + rest) hA (by omega) c1 blt e4
    have fd2 := zJ_find (l := aL r a + d) (c := aB r a * 4 ^ d + rest) pp2 hA1 (by omega) (by omega) (by omega)
    rw [fnd_new en] at fd2
    have fd2' : F_X6_findAllele (z + 214) (nI 25) (nI (aL r a + d)) (nI (aB r a * 4 ^ d + rest)) S1 = some (nI n, S1) := fd2
    obtain ⟨S2, p3, p4⟩ := zJ_of (k := 4 * v + a) (y1 := nI n) pp2 (by omega)
    refine ⟨S2, _, ?_, p4, hA1, fun k hk => ?_⟩
    · simp only [F_X6_gather_L45, F_X6_gather_J127, F_X6_gather_J142, l_0, l_1, l_2, l_3, l_4, l_5, l_6, l_7, l_8, l_9, l_10, l_11, l_12, l_13, l_14, l_15, l_16, l_17, l_18, l_19, l_20, l_21, l_24, l_25, l_26, l_27, l_31, l_33, l_41, l_65, l_67, l_71, l_84, l_120, l_127, l_128, l_130, l_160, l_162, l_200, l_255, l_256, l_999, l_1000, l_8000, l_9999, l_10000, l_8001, l_m1, t_k214 hS, g1, c, nI_add, nI_mul, g2, c1', g6, e1, fd', d5, g5, d6, p1, t_r214_10 hS1, t_k214 hS1, fd2', p3, bd2_some, bdx_inl, bdx_inr, bdc_inl, bdc_inr, obd_some, ↓reduceIte]
    · rw [if_neg (by omega), if_neg (by omega), if_neg (by omega)]
/-- the first record's alleles -/
theorem m_gax {y : Rc} {d rest : Nat} (hq : q < 24) (hr : zMR (mI S0 (z + 216)) (41 * q) r) (n4r : aN r ≤ 4) (hal : aAl (aN r) (aL r) (aB r)) (hd : d = aL y 0 - aL r 0) (hd8 : d ≤ 8) (hrest : rest = aB y 0 % 4 ^ d) : ∀ (m fu a : Nat) (S : Mem) (R O : Nat → Int32), zJ z S0 S R O → zAr R a (jL r y) (jB r y) → (∀ b, b < a → O b = nI b) → a + m = aN r → m < fu →
    ((∀ b, b < aN r → jL r y b ≤ 8) → ∃ S' R' O', F_X6_gather_L45 fu (z + 214) (nI q) (nI 0) (nI d) (nI rest) (nI a) S = some (nI 1, S') ∧ zJ z S0 S' R' O' ∧ zAr R' (aN r) (jL r y) (jB r y) ∧ (∀ b, b < aN r → O' b = nI b) ∧ ∀ k, (k = 0 ∨ 10 ≤ k) → R' k = R k) ∧
    ((∃ b, a ≤ b ∧ b < aN r ∧ 8 < jL r y b) → ∃ S' R' O', F_X6_gather_L45 fu (z + 214) (nI q) (nI 0) (nI d) (nI rest) (nI a) S = some (nI 0, S') ∧ zJ z S0 S' R' O') := by
  intro m
  induction m with
  | zero =>
    intro fu a S R O h hA hO ha hf
    obtain ⟨fu, rfl⟩ : ∃ f, fu = f + 1 := ⟨fu - 1, by omega⟩
    have hS := zJ_St h
    have e : a = aN r := by omega
    subst e
    have c : nI (aN r) ≤ nI (aN r) := nI_le (Nat.le_refl _) (by omega)
    have g1 := zJ_get h (q := q) (k := 1) (by omega) (by omega) (by omega)
    rw [hr.1.2.2] at g1
    refine ⟨fun _ => ⟨S, R, O, ?_, h, hA, hO, fun _ _ => rfl⟩, fun ⟨b, h1, h2, _⟩ => by omega⟩
    simp only [F_X6_gather_L45, l_0, l_1, l_2, l_3, l_4, l_5, l_6, l_7, l_8, l_9, l_10, l_11, l_12, l_13, l_14, l_15, l_16, l_17, l_18, l_19, l_20, l_21, l_24, l_25, l_26, l_27, l_31, l_33, l_41, l_65, l_67, l_71, l_84, l_120, l_127, l_128, l_130, l_160, l_162, l_200, l_255, l_256, l_999, l_1000, l_8000, l_9999, l_10000, l_8001, l_m1, t_k214 hS, g1, c, bd2_some, bdx_inl, bdx_inr, bdc_inl, bdc_inr, obd_some, ↓reduceIte]
  | succ m ih =>
    intro fu a S R O h hA hO ha hf
    obtain ⟨fu, rfl⟩ : ∃ f, fu = f + 1 := ⟨fu - 1, by omega⟩
    obtain ⟨G1, G2⟩ := m_gst (fu := fu) (d := d) (rest := rest) (v := 0) h hq hr n4r (show a < aN r by omega) (by omega) (hal.1 a (by omega)) hd8 (by rw [hrest]; exact Nat.mod_lt _ (p4_pos d)) hA (show a ≤ 4 by omega)
    have eL : aL r a + d = jL r y a := by rw [hd]; rfl
    have eB : aB r a * 4 ^ d + rest = jB r y a := by rw [hrest, hd]; rfl
    rw [eL] at G1 G2
    rw [eB] at G2
    by_cases c1 : 8 < jL r y a
    · refine ⟨fun q => absurd (q a (by omega)) (by omega), fun _ => ⟨S, R, O, G1 c1, h⟩⟩
    · have en : fnd a (jL r y) (jB r y) (jL r y a) (jB r y a) = none := by
        rw [fnd_none]
        rintro i hi ⟨w1, w2⟩
        have := (j_len (o := y) hal).2 i a (by omega) (by omega) w1 w2
        omega
      obtain ⟨S1, R1, q1, q2, q3, q4⟩ := (G2 (by omega)).2.2 en (by omega)
      have us : ∀ f : Nat → Nat, va_up f a (f a) = f := by
        intro f
        funext i
        by_cases e : i = a
        · subst e; simp only [va_up, ↓reduceIte]
        · simp only [va_up, e, ↓reduceIte]
      rw [us, us] at q3
      rw [show 4 * 0 + a = a by omega] at q2
      obtain ⟨I1, I2⟩ := ih fu (a + 1) S1 R1 _ q2 q3 (fun b hb => by
        by_cases e : b = a
        · subst e; simp only [va_up, ↓reduceIte]
        · simp only [va_up, e, ↓reduceIte]; exact hO b (by omega)) (by omega) (by omega)
      rw [q1]
      refine ⟨fun w => ?_, fun ⟨b, h1, h2, h3⟩ => I2 ⟨b, ?_, h2, h3⟩⟩
      · obtain ⟨S2, R2, O2, w1, w2, w3, w4, w5⟩ := I1 w
        exact ⟨S2, R2, O2, w1, w2, w3, w4, fun k hk => (w5 k hk).trans (q4 k hk)⟩
      · by_cases e : b = a
        · subst e; omega
        · omega
/-- the second record's alleles -/
theorem m_gay {y : Rc} {d rest : Nat} (hq : q < 24) (hr : zMR (mI S0 (z + 216)) (41 * q) r) (n4r : aN r ≤ 4) (hal : aAl (aN r) (aL r) (aB r)) (hd : d = aL y 0 - aL r 0) (hd8 : d ≤ 8) (hrest : rest = aB y 0 % 4 ^ d) : ∀ (m fu a n : Nat) (L B w : Nat → Nat) (S : Mem) (R O : Nat → Int32), zJ z S0 S R O → zAr R n L B → n ≤ 4 → (∀ b, b < a → O (4 + b) = nI (w b)) → a + m = aN r → m < fu →
    (∀ t, (∀ b, b < aN r → jL r y b ≤ 8) → jAdd (jL r y) (jB r y) m a n L B w = some t → ∃ S' R' O', F_X6_gather_L45 fu (z + 214) (nI q) (nI 1) (nI d) (nI rest) (nI a) S = some (nI 1, S') ∧ zJ z S0 S' R' O' ∧ zAr R' t.1 t.2.1 t.2.2.1 ∧ (∀ b, b < aN r → O' (4 + b) = nI (t.2.2.2 b)) ∧ (∀ b, b < 4 → O' b = O b) ∧ ∀ k, (k = 0 ∨ 10 ≤ k) → R' k = R k) ∧
    (((∃ b, a ≤ b ∧ b < aN r ∧ 8 < jL r y b) ∨ jAdd (jL r y) (jB r y) m a n L B w = none) → ∃ S' R' O', F_X6_gather_L45 fu (z + 214) (nI q) (nI 1) (nI d) (nI rest) (nI a) S = some (nI 0, S') ∧ zJ z S0 S' R' O') := by
  intro m
  induction m with
  | zero =>
    intro fu a n L B w S R O h hA hn hO ha hf
    obtain ⟨fu, rfl⟩ : ∃ f, fu = f + 1 := ⟨fu - 1, by omega⟩
    have hS := zJ_St h
    have e : a = aN r := by omega
    subst e
    have c : nI (aN r) ≤ nI (aN r) := nI_le (Nat.le_refl _) (by omega)
    have g1 := zJ_get h (q := q) (k := 1) (by omega) (by omega) (by omega)
    rw [hr.1.2.2] at g1
    refine ⟨fun t _ et => ?_, ?_⟩
    · cases et
      refine ⟨S, R, O, ?_, h, hA, hO, fun _ _ => rfl, fun _ _ => rfl⟩
      simp only [F_X6_gather_L45, l_0, l_1, l_2, l_3, l_4, l_5, l_6, l_7, l_8, l_9, l_10, l_11, l_12, l_13, l_14, l_15, l_16, l_17, l_18, l_19, l_20, l_21, l_24, l_25, l_26, l_27, l_31, l_33, l_41, l_65, l_67, l_71, l_84, l_120, l_127, l_128, l_130, l_160, l_162, l_200, l_255, l_256, l_999, l_1000, l_8000, l_9999, l_10000, l_8001, l_m1, t_k214 hS, g1, c, bd2_some, bdx_inl, bdx_inr, bdc_inl, bdc_inr, obd_some, ↓reduceIte]
    · rintro (⟨b, h1, h2, _⟩ | e)
      · omega
      · cases e
  | succ m ih =>
    intro fu a n L B w S R O h hA hn hO ha hf
    obtain ⟨fu, rfl⟩ : ∃ f, fu = f + 1 := ⟨fu - 1, by omega⟩
    obtain ⟨G1, G2⟩ := m_gst (fu := fu) (d := d) (rest := rest) (v := 1) h hq hr n4r (show a < aN r by omega) (by omega) (hal.1 a (by omega)) hd8 (by rw [hrest]; exact Nat.mod_lt _ (p4_pos d)) hA hn
    have eL : aL r a + d = jL r y a := by rw [hd]; rfl
    have eB : aB r a * 4 ^ d + rest = jB r y a := by rw [hrest, hd]; rfl
    rw [eL] at G1 G2
    rw [eB] at G2
    by_cases c1 : 8 < jL r y a
    · refine ⟨fun t q _ => absurd (q a (by omega)) (by omega), fun _ => ⟨S, R, O, G1 c1, h⟩⟩
    · obtain ⟨G3, G4, G5⟩ := G2 (by omega)
      have tail : ∀ {S1 : Mem} {R1 : Nat → Int32} {n' : Nat} {L' B' : Nat → Nat} {k : Nat}, F_X6_gather_L45 (fu + 1) (z + 214) (nI q) (nI 1) (nI d) (nI rest) (nI a) S = F_X6_gather_L45 fu (z + 214) (nI q) (nI 1) (nI d) (nI rest) (nI (a + 1)) S1 → zJ z S0 S1 R1 (va_up O (4 * 1 + a) (nI k)) → zAr R1 n' L' B' → n' ≤ 4 → (∀ k, (k = 0 ∨ 10 ≤ k) → R1 k = R k) → jAdd (jL r y) (jB r y) (m + 1) a n L B w = jAdd (jL r y) (jB r y) m (a + 1) n' L' B' (va_up w a k) →
          (∀ t, (∀ b, b < aN r → jL r y b ≤ 8) → jAdd (jL r y) (jB r y) (m + 1) a n L B w = some t → ∃ S' R' O', F_X6_gather_L45 (fu + 1) (z + 214) (nI q) (nI 1) (nI d) (nI rest) (nI a) S = some (nI 1, S') ∧ zJ z S0 S' R' O' ∧ zAr R' t.1 t.2.1 t.2.2.1 ∧ (∀ b, b < aN r → O' (4 + b) = nI (t.2.2.2 b)) ∧ (∀ b, b < 4 → O' b = O b) ∧ ∀ k, (k = 0 ∨ 10 ≤ k) → R' k = R k) ∧
          (((∃ b, a ≤ b ∧ b < aN r ∧ 8 < jL r y b) ∨ jAdd (jL r y) (jB r y) (m + 1) a n L B w = none) → ∃ S' R' O', F_X6_gather_L45 (fu + 1) (z + 214) (nI q) (nI 1) (nI d) (nI rest) (nI a) S = some (nI 0, S') ∧ zJ z S0 S' R' O') := by
        intro S1 R1 n' L' B' k q1 q2 q3 q4 q5 q6
        obtain ⟨I1, I2⟩ := ih fu (a + 1) n' L' B' (va_up w a k) S1 R1 _ q2 q3 q4 (fun b hb => by
          by_cases e : b = a
          · subst e
            simp only [va_up, show 4 * 1 + b = 4 + b by omega, ↓reduceIte]
          · have e' : ¬ 4 + b = 4 * 1 + a := by omega
            simp only [va_up, e, e', ↓reduceIte]; exact hO b (by omega)) (by omega) (by omega)
        rw [q1, q6]
        refine ⟨fun t t1 t2 => ?_, fun hh => I2 ?_⟩
        · obtain ⟨S2, R2, O2, w1, w2, w3, w4, w5, w6⟩ := I1 t t1 t2
          refine ⟨S2, R2, O2, w1, w2, w3, w4, fun b hb => ?_, fun k hk => (w6 k hk).trans (q5 k hk)⟩
          rw [w5 b hb]
          have e' : ¬ b = 4 * 1 + a := by omega
          simp only [va_up, e', ↓reduceIte]
        · rcases hh with ⟨b, h1, h2, h3⟩ | hh
          · refine Or.inl ⟨b, ?_, h2, h3⟩
            by_cases e : b = a
            · subst e; omega
            · omega
          · exact Or.inr hh
      cases en : fnd n L B (jL r y a) (jB r y a) with
      | some k =>
        obtain ⟨S1, q1, q2⟩ := G3 k en
        exact tail q1 q2 hA hn (fun _ _ => rfl) (jAdd_f en)
      | none =>
        by_cases e4 : n = 4
        · refine ⟨fun t _ et => ?_, fun _ => ⟨S, R, O, G4 en e4, h⟩⟩
          rw [jAdd_4 en e4] at et
          cases et
        · obtain ⟨S1, R1, q1, q2, q3, q4⟩ := G5 en (by omega)
          exact tail q1 q2 q3 (by omega) q4 (jAdd_n en e4)
end M18
