set_option maxRecDepth 20000
def lkv (r : Rc) (w : Nat → Nat) (m j k : Nat) : Nat := match bk w (aN r) j, bk w (aN r) k with
  | some a, some b => aK r (10 * m + prn a b)
  | _, _ => 999
def kf (x y : Rc) (w : Nat → Nat) (i : Nat) : Nat := min (lk1 x i) (lk2 y w i)
theorem pp_tri : ∀ k, k < 4 → ∀ j, j < 4 → j ≤ k → ppJ (prn j k) = j ∧ ppK (prn j k) = k ∧ prn j k = prs k + j ∧ prs (k + 1) = prs k + (k + 1) ∧ prn j k < 10 := by decide +kernel
section M19
variable {S S' S0 S1 S2 T : Mem} {z n a b i j k o o' e q x m v qx qy : Nat} {r rx ry : Rc} {s : As} {W W' R O : Nat → Int32} {ls : List Rc} {L B w : Nat → Nat} {y1 y2 : Int32}
theorem m_back_L (h : zJ z S0 S R O) (hq : q < 24) (hr : zMR (mI S0 (z + 216)) (41 * q) r) (n4r : aN r ≤ 4) (hv : v < 2) (hO : ∀ b, b < aN r → O (4 * v + b) = nI (w b) ∧ w b < 2147483648) (hk : k < 2147483648) : ∀ (m fu a : Nat), a + m = aN r → m < fu → F_X6_back_L3 fu (z + 214) (nI q) (nI v) (nI k) (nI a) S = some (fI (bkA w k m a), S) := by
  intro m
  have hS := zJ_St h
  have g1 := zJ_get h (q := q) (k := 1) (by omega) (by omega) (by omega)
  rw [hr.1.2.2] at g1
  induction m with
  | zero =>
    intro fu a ha hf
    obtain ⟨fu, rfl⟩ : ∃ f, fu = f + 1 := ⟨fu - 1, by omega⟩
    have c : nI (aN r) ≤ nI a := nI_le (by omega) (by omega)
    simp only [F_X6_back_L3, l_0, l_1, l_2, l_3, l_4, l_5, l_6, l_7, l_8, l_9, l_10, l_11, l_12, l_13, l_14, l_15, l_16, l_17, l_18, l_19, l_20, l_21, l_24, l_25, l_26, l_27, l_31, l_33, l_41, l_65, l_67, l_71, l_84, l_120, l_127, l_128, l_130, l_160, l_162, l_200, l_255, l_256, l_999, l_1000, l_8000, l_9999, l_10000, l_8001, l_m1, t_k214 hS, g1, c, bkA, fI, bd2_some, bdx_inl, bdx_inr, bdc_inl, bdc_inr, obd_some, ↓reduceIte]
  | succ m ih =>
    intro fu a ha hf
    obtain ⟨fu, rfl⟩ : ∃ f, fu = f + 1 := ⟨fu - 1, by omega⟩
    have c : ¬ nI (aN r) ≤ nI a := nI_ge (by omega) (by omega)
    obtain ⟨o1, o2⟩ := hO a (by omega)
    have p1 := zJ_a h (k := 4 * v + a) (by omega)
    rw [o1] at p1
    by_cases c1 : w a = k
    · have c1' : nI (w a) = nI k := by rw [c1]
      rw [bkA, if_pos c1]
      simp only [F_X6_back_L3, l_0, l_1, l_2, l_3, l_4, l_5, l_6, l_7, l_8, l_9, l_10, l_11, l_12, l_13, l_14, l_15, l_16, l_17, l_18, l_19, l_20, l_21, l_24, l_25, l_26, l_27, l_31, l_33, l_41, l_65, l_67, l_71, l_84, l_120, l_127, l_128, l_130, l_160, l_162, l_200, l_255, l_256, l_999, l_1000, l_8000, l_9999, l_10000, l_8001, l_m1, t_k214 hS, g1, c, t_r214_10 hS, nI_mul, nI_add, p1, c1', fI, bd2_some, bdx_inl, bdx_inr, bdc_inl, bdc_inr, obd_some, ↓reduceIte]
    · have c1' : ¬ nI (w a) = nI k := fun e => c1 ((nI_eq o2 hk).mp e)
      rw [bkA, if_neg c1, ← ih fu (a + 1) (by omega) (by omega)]
      simp only [F_X6_back_L3, l_0, l_1, l_2, l_3, l_4, l_5, l_6, l_7, l_8, l_9, l_10, l_11, l_12, l_13, l_14, l_15, l_16, l_17, l_18, l_19, l_20, l_21, l_24, l_25, l_26, l_27, l_31, l_33, l_41, l_65, l_67, l_71, l_84, l_120, l_127, l_128, l_130, l_160, l_162, l_200, l_255, l_256, l_999, l_1000, l_8000, l_9999, l_10000, l_8001, l_m1, t_k214 hS, g1, c, t_r214_10 hS, nI_mul, nI_add, p1, c1', bd2_some, bdx_inl, bdx_inr, bdc_inl, bdc_inr, obd_some, ↓reduceIte]
theorem m_back (h : zJ z S0 S R O) (hq : q < 24) (hr : zMR (mI S0 (z + 216)) (41 * q) r) (n4r : aN r ≤ 4) (hv : v < 2) (hO : ∀ b, b < aN r → O (4 * v + b) = nI (w b) ∧ w b < 2147483648) (hk : k < 2147483648) : F_X6_back (z + 214) (nI q) (nI v) (nI k) S = some (fI (bk w (aN r) k), S) :=
  m_back_L h hq hr n4r hv hO hk (aN r) FU 0 (by omega) (by show aN r < 4000; omega)
theorem zMR_K (hr : zMR W o r) (n4r : aN r ≤ 4) (hm : m < 2) (hi : i < prs (aN r)) : W (o + (21 + 10 * m + i)) = nI (aK r (10 * m + i)) := by
  obtain ⟨-, -, -, -, r11⟩ := hr
  rcases (show m = 0 ∨ m = 1 by omega) with e | e <;> subst e
  · rw [show 21 + 10 * 0 + i = 21 + i by omega, show 10 * 0 + i = i by omega]; exact (r11 i hi).1
  · rw [show 21 + 10 * 1 + i = 31 + i by omega, show 10 * 1 + i = 10 + i by omega]; exact (r11 i hi).2
theorem m_likely (h : zJ z S0 S R O) (hq : q < 24) (hr : zMR (mI S0 (z + 216)) (41 * q) r) (n4r : aN r ≤ 4) (hv : v < 2) (hO : ∀ b, b < aN r → O (4 * v + b) = nI (w b) ∧ w b < 2147483648) (hm : m < 2) (hj : j < 2147483648) (hk : k < 2147483648) : F_X6_likely (z + 214) (nI q) (nI v) (nI m) (nI j) (nI k) S = some (nI (lkv r w m j k), S) := by
  have hS := zJ_St h
  have b1 := m_back h hq hr n4r hv hO hj
  have b2 := m_back h hq hr n4r hv hO hk
  unfold lkv
  cases e1 : bk w (aN r) j with
  | none =>
    rw [e1] at b1
    have b1' : F_X6_back (z + 214) (nI q) (nI v) (nI j) S = some (m1, S) := b1
    have c : m1 < nI 0 := m1_lt
    simp only [F_X6_likely, F_X6_likely_J30, l_0, l_1, l_2, l_3, l_4, l_5, l_6, l_7, l_8, l_9, l_10, l_11, l_12, l_13, l_14, l_15, l_16, l_17, l_18, l_19, l_20, l_21, l_24, l_25, l_26, l_27, l_31, l_33, l_41, l_65, l_67, l_71, l_84, l_120, l_127, l_128, l_130, l_160, l_162, l_200, l_255, l_256, l_999, l_1000, l_8000, l_9999, l_10000, l_8001, l_m1, t_k214 hS, b1', b2, c, bd2_some, bdx_inl, bdx_inr, bdc_inl, bdc_inr, obd_some, ↓reduceIte]
  | some a =>
    rw [e1] at b1
    have b1' : F_X6_back (z + 214) (nI q) (nI v) (nI j) S = some (nI a, S) := b1
    have ha := (bk_some e1).1
    have c : ¬ nI a < nI 0 := nI_nlt (by omega) (by omega)
    cases e2 : bk w (aN r) k with
    | none =>
      rw [e2] at b2
      have b2' : F_X6_back (z + 214) (nI q) (nI v) (nI k) S = some (m1, S) := b2
      have c2 : ¬ nI 0 ≤ m1 := by decide
      simp only [F_X6_likely, F_X6_likely_J30, l_0, l_1, l_2, l_3, l_4, l_5, l_6, l_7, l_8, l_9, l_10, l_11, l_12, l_13, l_14, l_15, l_16, l_17, l_18, l_19, l_20, l_21, l_24, l_25, l_26, l_27, l_31, l_33, l_41, l_65, l_67, l_71, l_84, l_120, l_127, l_128, l_130, l_160, l_162, l_200, l_255, l_256, l_999, l_1000, l_8000, l_9999, l_10000, l_8001, l_m1, t_k214 hS, b1', b2', c, c2, bd2_some, bdx_inl, bdx_inr, bdc_inl, bdc_inr, obd_some, ↓reduceIte]
    | some b =>
      rw [e2] at b2
      have b2' : F_X6_back (z + 214) (nI q) (nI v) (nI k) S = some (nI b, S) := b2
      have hb := (bk_some e2).1
      have c2 : nI 0 ≤ nI b := nI_le (by omega) (by omega)
      have mp := m_pair (S := S) (show a < 4 by omega) (show b < 4 by omega)
      have pl := prn_prs (aN r) n4r a ha b hb
      have p10 := prs_le n4r
      have g1 := zJ_get h (q := q) (k := 21 + 10 * m + prn a b) (by omega) (by omega) (by omega)
      rw [zMR_K hr n4r hm pl] at g1
      simp only [F_X6_likely, l_0, l_1, l_2, l_3, l_4, l_5, l_6, l_7, l_8, l_9, l_10, l_11, l_12, l_13, l_14, l_15, l_16, l_17, l_18, l_19, l_20, l_21, l_24, l_25, l_26, l_27, l_31, l_33, l_41, l_65, l_67, l_71, l_84, l_120, l_127, l_128, l_130, l_160, l_162, l_200, l_255, l_256, l_999, l_1000, l_8000, l_9999, l_10000, l_8001, l_m1, t_k214 hS, b1', b2', c, c2, mp, nI_mul, nI_add, g1, bd2_some, bdx_inl, bdx_inr, bdc_inl, bdc_inr, obd_some, ↓reduceIte]
/-- what is known while two records are joined -/
def zJr (z : Nat) (S0 : Mem) (O : Nat → Int32) (qx qy : Nat) (rx ry : Rc) (w : Nat → Nat) : Prop := (qx < 24 ∧ qy < 24) ∧ (zMR (mI S0 (z + 216)) (41 * qx) rx ∧ zMR (mI S0 (z + 216)) (41 * qy) ry) ∧ (aN rx ≤ 4 ∧ aN ry ≤ 4) ∧ (∀ b, b < aN rx → O b = nI b) ∧ (∀ b, b < aN ry → O (4 + b) = nI (w b) ∧ w b < 4) ∧ (aVl rx ∧ aVl ry) ∧ w 0 = 0 ∧ 2 ≤ aN ry
theorem bk_idA : ∀ (m a k : Nat), a ≤ k → bkA (fun b => b) k m a = if k < a + m then some k else none := by
  intro m
  induction m with
  | zero => intro a k h; rw [bkA, if_neg (by omega)]
  | succ m ih =>
    intro a k h
    rw [bkA]
    by_cases c : a = k
    · subst c; rw [if_pos rfl, if_pos (by omega)]
    · rw [if_neg c, ih (a + 1) k (by omega), show a + 1 + m = a + (m + 1) by omega]
theorem bk_id (n k : Nat) : bk (fun b => b) n k = if k < n then some k else none := by
  have := bk_idA n 0 k (Nat.zero_le _)
  rw [Nat.zero_add] at this
  exact this
theorem lkv_x (hm : m < 2) (hk : k < 4) (hj : j ≤ k) : lkv rx (fun b => b) m j k = lk1 rx (10 * m + prn j k) := by
  obtain ⟨t1, t2, t3, t4, t5⟩ := pp_tri k hk j (by omega) hj
  obtain ⟨u1, u2, u3⟩ := pp_10 m hm (prn j k) t5
  unfold lkv lk1
  rw [bk_id, bk_id, u2, t2]
  by_cases c : k < aN rx
  · rw [if_pos c, if_pos c, if_pos (by omega)]
  · rw [if_neg c, if_neg c]
    split <;> rename_i h1 h2 <;> first | rfl | (cases h2)
theorem lkv_y (hm : m < 2) (hk : k < 4) (hj : j ≤ k) : lkv ry w m j k = lk2 ry w (10 * m + prn j k) := by
  obtain ⟨t1, t2, t3, t4, t5⟩ := pp_tri k hk j (by omega) hj
  obtain ⟨u1, u2, u3⟩ := pp_10 m hm (prn j k) t5
  unfold lkv lk2
  rw [u1, u2, u3, t1, t2]
  cases bk w (aN ry) j <;> cases bk w (aN ry) k <;> rfl
theorem lk_lt (hv : aVl rx) (n4 : aN rx ≤ 4) (hw : ∀ a b, a < aN rx → b < aN rx → True) (hm : m < 2) : lkv rx w m j k ≤ 999 := by
  unfold lkv
  cases e1 : bk w (aN rx) j with
  | none => exact Nat.le_refl _
  | some a =>
    cases e2 : bk w (aN rx) k with
    | none => exact Nat.le_refl _
    | some b =>
      have pl := prn_prs (aN rx) n4 a (bk_some e1).1 b (bk_some e2).1
      have := hv.2.2.2.2 _ pl
      show aK rx (10 * m + prn a b) ≤ 999
      rcases (show m = 0 ∨ m = 1 by omega) with e | e <;> subst e
      · rw [show 10 * 0 + prn a b = prn a b by omega]; exact this.1
      · rw [show 10 * 1 + prn a b = 10 + prn a b by omega]; exact this.2
theorem m_j168s {K : Nat → Int32 → Int32 → Int32 → Int32 → Mem → Option Mem} {fu : Nat} (h : zJ z S0 S R O) (hJ : zJr z S0 O qx qy rx ry w) (hm : m < 2) (hk : k < 4) (hj : j ≤ k) : ∃ S', F_X6_joinSample_L168 K (fu + 1) (z + 214) (nI qx) (nI qy) (nI m) (nI k) (nI j) S = F_X6_joinSample_L168 K fu (z + 214) (nI qx) (nI qy) (nI m) (nI k) (nI (j + 1)) S' ∧ zJ z S0 S' (va_up R (21 + 10 * m + prn j k) (nI (kf rx ry w (10 * m + prn j k)))) O := by
  obtain ⟨⟨q1, q2⟩, ⟨r1, r2⟩, ⟨n1, n2⟩, o1, o2, ⟨v1, v2⟩, w0, -⟩ := hJ
  have hS := zJ_St h
  obtain ⟨t1, t2, t3, t4, t5⟩ := pp_tri k hk j (by omega) hj
  have c : ¬ nI k < nI j := nI_nlt hj (by omega)
  have l1 := m_likely (w := fun b => b) (v := 0) (j := j) (k := k) h q1 r1 n1 (by omega) (fun b hb => ⟨by rw [show 4 * 0 + b = b by omega]; exact o1 b hb, by omega⟩) hm (by omega) (by omega)
  have l2 := m_likely (w := w) (v := 1) (j := j) (k := k) h q2 r2 n2 (by omega) (fun b hb => ⟨by rw [show 4 * 1 + b = 4 + b by omega]; exact (o2 b hb).1, by have := (o2 b hb).2; omega⟩) hm (by omega) (by omega)
  have b1 := lk_lt (w := fun b => b) (j := j) (k := k) v1 n1 (fun _ _ _ _ => trivial) hm
  have b2 := lk_lt (w := w) (j := j) (k := k) v2 n2 (fun _ _ _ _ => trivial) hm
  rw [lkv_x hm hk hj] at l1 b1
  rw [lkv_y hm hk hj] at l2 b2
  have mp := m_pair (S := S) (show j < 4 by omega) hk
  obtain ⟨S1, p1, pp2⟩ := zJ_put (k := 21 + 10 * m + prn j k) (y1 := nI (kf rx ry w (10 * m + prn j k))) h (by omega)
  refine ⟨S1, ?_, pp2⟩
  unfold kf at p1
  by_cases c2 : lk2 ry w (10 * m + prn j k) ≤ lk1 rx (10 * m + prn j k)
  · have c2' : nI (lk2 ry w (10 * m + prn j k)) ≤ nI (lk1 rx (10 * m + prn j k)) := nI_le c2 (by omega)
    rw [Nat.min_eq_right c2] at p1
    simp only [F_X6_joinSample_L168, F_X6_joinSample_J233, l_0, l_1, l_2, l_3, l_4, l_5, l_6, l_7, l_8, l_9, l_10, l_11, l_12, l_13, l_14, l_15, l_16, l_17, l_18, l_19, l_20, l_21, l_24, l_25, l_26, l_27, l_31, l_33, l_41, l_65, l_67, l_71, l_84, l_120, l_127, l_128, l_130, l_160, l_162, l_200, l_255, l_256, l_999, l_1000, l_8000, l_9999, l_10000, l_8001, l_m1, c, t_k214 hS, l1, l2, mp, c2', nI_mul, nI_add, p1, bd2_some, bdx_inl, bdx_inr, bdc_inl, bdc_inr, obd_some, ↓reduceIte]
  · have c2' : ¬ nI (lk2 ry w (10 * m + prn j k)) ≤ nI (lk1 rx (10 * m + prn j k)) := nI_ge (by omega) (by omega)
    rw [Nat.min_eq_left (by omega)] at p1
    simp only [F_X6_joinSample_L168, F_X6_joinSample_J233, l_0, l_1, l_2, l_3, l_4, l_5, l_6, l_7, l_8, l_9, l_10, l_11, l_12, l_13, l_14, l_15, l_16, l_17, l_18, l_19, l_20, l_21, l_24, l_25, l_26, l_27, l_31, l_33, l_41, l_65, l_67, l_71, l_84, l_120, l_127, l_128, l_130, l_160, l_162, l_200, l_255, l_256, l_999, l_1000, l_8000, l_9999, l_10000, l_8001, l_m1, c, t_k214 hS, l1, l2, mp, c2', nI_mul, nI_add, p1, bd2_some, bdx_inl, bdx_inr, bdc_inl, bdc_inr, obd_some, ↓reduceIte]
theorem m_j168 {K : Nat → Int32 → Int32 → Int32 → Int32 → Mem → Option Mem} (hJ : zJr z S0 O qx qy rx ry w) (hm : m < 2) (hk : k < 4) : ∀ (d fu j : Nat) (S : Mem) (R : Nat → Int32), zJ z S0 S R O → j + d = k + 1 → d < fu → ∃ S' R', F_X6_joinSample_L168 K fu (z + 214) (nI qx) (nI qy) (nI m) (nI k) (nI j) S = K (z + 214) (nI qx) (nI qy) (nI m) (nI (k + 1)) S' ∧ zJ z S0 S' R' O ∧ (∀ i, prs k + j ≤ i → i < prs (k + 1) → R' (21 + 10 * m + i) = nI (kf rx ry w (10 * m + i))) ∧ ∀ i, (i < 21 + 10 * m + (prs k + j) ∨ 21 + 10 * m + prs (k + 1) ≤ i) → R' i = R i := by
  intro d
  have t4 := (pp_tri k hk 0 (by omega) (by omega)).2.2.2.1
  induction d with
  | zero =>
    intro fu j S R h hj hf
    obtain ⟨fu, rfl⟩ : ∃ f, fu = f + 1 := ⟨fu - 1, by omega⟩
    have c : nI k < nI j := nI_lt (by omega) (by omega)
    refine ⟨S, R, ?_, h, fun i h1 h2 => by omega, fun _ _ => rfl⟩
    simp only [F_X6_joinSample_L168, l_0, l_1, l_2, l_3, l_4, l_5, l_6, l_7, l_8, l_9, l_10, l_11, l_12, l_13, l_14, l_15, l_16, l_17, l_18, l_19, l_20, l_21, l_24, l_25, l_26, l_27, l_31, l_33, l_41, l_65, l_67, l_71, l_84, l_120, l_127, l_128, l_130, l_160, l_162, l_200, l_255, l_256, l_999, l_1000, l_8000, l_9999, l_10000, l_8001, l_m1, c, nI_add, ↓reduceIte]
  | succ d ih =>
    intro fu j S R h hj hf
    obtain ⟨fu, rfl⟩ : ∃ f, fu = f + 1 := ⟨fu - 1, by omega⟩
    obtain ⟨S1, a1, a2⟩ := m_j168s (K := K) (fu := fu) h hJ hm hk (show j ≤ k by omega)
    have t3 := (pp_tri k hk j (by omega) (by omega)).2.2.1
    obtain ⟨S2, R2, b1, b2, b3, b4⟩ := ih fu (j + 1) S1 _ a2 (by omega) (by omega)
    refine ⟨S2, R2, a1.trans b1, b2, fun i h1 h2 => ?_, fun i hi => ?_⟩
    · by_cases c : i = prs k + j
      · rw [b4 _ (by omega), c, ← t3]
        simp only [va_up, ↓reduceIte]
      · exact b3 i (by omega) h2
    · rw [b4 i (by omega)]
      have : ¬ i = 21 + 10 * m + prn j k := by omega
      simp only [va_up, this, ↓reduceIte]
theorem m_j153 (hJ : zJr z S0 O qx qy rx ry w) (hm : m < 2) (hn : n ≤ 4) : ∀ (d fu k : Nat) (S : Mem) (R : Nat → Int32), zJ z S0 S R O → R 1 = nI n → k + d = n → d < fu → ∃ S' R', F_X6_joinSample_L153 fu (z + 214) (nI qx) (nI qy) (nI m) (nI k) S = some S' ∧ zJ z S0 S' R' O ∧ (∀ i, prs k ≤ i → i < prs n → R' (21 + 10 * m + i) = nI (kf rx ry w (10 * m + i))) ∧ ∀ i, (i < 21 + 10 * m + prs k ∨ 21 + 10 * m + prs n ≤ i) → R' i = R i := by
  intro d
  induction d with
  | zero =>
    intro fu k S R h hR hk hf
    obtain ⟨fu, rfl⟩ : ∃ f, fu = f + 1 := ⟨fu - 1, by omega⟩
    have hS := zJ_St h
    have e : k = n := by omega
    subst e
    have c : nI k ≤ nI k := nI_le (by omega) (by omega)
    have g1 := zJ_get5 h (k := 1) (by omega)
    rw [hR] at g1
    refine ⟨S, R, ?_, h, fun i h1 h2 => by omega, fun _ _ => rfl⟩
    simp only [F_X6_joinSample_L153, l_0, l_1, l_2, l_3, l_4, l_5, l_6, l_7, l_8, l_9, l_10, l_11, l_12, l_13, l_14, l_15, l_16, l_17, l_18, l_19, l_20, l_21, l_24, l_25, l_26, l_27, l_31, l_33, l_41, l_65, l_67, l_71, l_84, l_120, l_127, l_128, l_130, l_160, l_162, l_200, l_255, l_256, l_999, l_1000, l_8000, l_9999, l_10000, l_8001, l_m1, t_k214 hS, g1, c, bd2_some, bdx_inl, bdx_inr, bdc_inl, bdc_inr, obd_some, ↓reduceIte]
  | succ d ih =>
    intro fu k S R h hR hk hf
    obtain ⟨fu, rfl⟩ : ∃ f, fu = f + 1 := ⟨fu - 1, by omega⟩
    have hS := zJ_St h
    have c : ¬ nI n ≤ nI k := nI_ge (by omega) (by omega)
    have g1 := zJ_get5 h (k := 1) (by omega)
    rw [hR] at g1
    have t4 := (pp_tri k (by omega) 0 (by omega) (by omega)).2.2.2.1
    have tn : prs (k + 1) ≤ prs n := by
      have : ∀ a, a ≤ 4 → ∀ b, b ≤ 4 → a ≤ b → prs a ≤ prs b := by decide +kernel
      exact this _ (by omega) _ (by omega) (by omega)
    obtain ⟨S1, R1, a1, a2, a3, a4⟩ := m_j168 (K := F_X6_joinSample_L153 fu) hJ hm (show k < 4 by omega) (k + 1) FU 0 S R h (by omega) (by show k + 1 < 4000; omega)
    obtain ⟨S2, R2, b1, b2, b3, b4⟩ := ih fu (k + 1) S1 R1 a2 (by rw [a4 1 (by omega)]; exact hR) (by omega) (by omega)
    refine ⟨S2, R2, ?_, b2, fun i h1 h2 => ?_, fun i hi => ?_⟩
    · have g1' : F_X6_get (z + 214) 25 1 S = some (nI n, S) := g1
      rw [F_X6_joinSample_L153, t_k214 hS, obd_some, g1', bd2_some, if_neg c]
      exact a1.trans b1
    · by_cases c1 : i < prs (k + 1)
      · rw [b4 _ (by omega)]
        exact a3 i (by omega) c1
      · exact b3 i (by omega) h2
    · rw [b4 i (by omega), a4 i (by omega)]
/-- a joined genotype -/
def jG (x y : Rc) (w : Nat → Nat) (i : Nat) : Nat := if 1 < aG x i then aG x i else if aG y i = 0 then aG x i else w (aG y i - 1) + 1
theorem zMR_G (hr : zMR W o r) (hm : m < 2) (hj : j < 2) : W (o + (15 + 3 * m + j)) = gI (aG r (2 * m + j)) := by
  obtain ⟨-, -, ⟨r5, r6, r7, r8⟩, -⟩ := hr
  rcases (show m = 0 ∨ m = 1 by omega) with e | e <;> subst e <;> rcases (show j = 0 ∨ j = 1 by omega) with e | e <;> subst e
  · exact r5
  · exact r6
  · exact r7
  · exact r8
theorem m_jg {fu : Nat} (h : zJ z S0 S R O) (hJ : zJr z S0 O qx qy rx ry w) (hm : m < 2) (hj : j < 2) : ∃ S', F_X6_joinSample_L3 (fu + 1) (z + 214) (nI qx) (nI qy) (nI m) (nI j) S = F_X6_joinSample_L3 fu (z + 214) (nI qx) (nI qy) (nI m) (nI (j + 1)) S' ∧ zJ z S0 S' (va_up R (15 + 3 * m + j) (gI (jG rx ry w (2 * m + j)))) O := by
  obtain ⟨⟨q1, q2⟩, ⟨r1, r2⟩, ⟨n1, n2⟩, o1, o2, ⟨v1, v2⟩, w0, ny2⟩ := hJ
  have hS := zJ_St h
  have c : ¬ nI 2 ≤ nI j := nI_ge (by omega) (by omega)
  have g1 := zJ_get h (q := qx) (k := 15 + 3 * m + j) (by omega) (by omega) (by omega)
  have g2 := zJ_get h (q := qy) (k := 15 + 3 * m + j) (by omega) (by omega) (by omega)
  rw [zMR_G r1 hm hj] at g1
  rw [zMR_G r2 hm hj] at g2
  have l1 := v1.2.2.1 (2 * m + j) (by omega)
  have l2 := v2.2.2.1 (2 * m + j) (by omega)
  obtain ⟨S1, p1, pp2⟩ := zJ_put (k := 15 + 3 * m + j) (y1 := gI (jG rx ry w (2 * m + j))) h (by omega)
  refine ⟨S1, ?_, pp2⟩
  unfold jG at p1
  obtain ⟨ga, ea⟩ : ∃ g, g = aG rx (2 * m + j) := ⟨_, rfl⟩
  obtain ⟨gb, eb⟩ : ∃ g, g = aG ry (2 * m + j) := ⟨_, rfl⟩
  rw [← ea] at g1 l1 p1
  rw [← eb] at g2 l2 p1
  have a00 : nI 0 ≤ nI 0 := by decide
  have am : m1 ≤ nI 0 := by decide
  have an : ¬ nI 0 ≤ m1 := by decide
  by_cases c1 : 1 < ga
  · obtain ⟨g, rfl⟩ : ∃ g, ga = g + 1 := ⟨ga - 1, by omega⟩
    rw [if_pos c1] at p1
    have d1 : ¬ nI g ≤ nI 0 := nI_ge (by omega) (by omega)
    have p2 := zJ_a h (k := g) (by omega)
    rw [o1 g (by omega)] at p2
    have g1' : F_X6_get (z + 214) (nI qx) (nI (15 + 3 * m + j)) S = some (nI g, S) := g1
    have p1' : F_X6_put (z + 214) (nI 25) (nI (15 + 3 * m + j)) (nI g) S = some S1 := p1
    simp only [F_X6_joinSample_L3, F_X6_joinSample_J100, l_0, l_1, l_2, l_3, l_4, l_5, l_6, l_7, l_8, l_9, l_10, l_11, l_12, l_13, l_14, l_15, l_16, l_17, l_18, l_19, l_20, l_21, l_24, l_25, l_26, l_27, l_31, l_33, l_41, l_65, l_67, l_71, l_84, l_120, l_127, l_128, l_130, l_160, l_162, l_200, l_255, l_256, l_999, l_1000, l_8000, l_9999, l_10000, l_8001, l_m1, c, t_k214 hS, nI_mul, nI_add, g1', g2, d1, t_r214_10 hS, p2, p1', bd2_some, bdx_inl, bdx_inr, bdc_inl, bdc_inr, obd_some, ↓reduceIte]
  · rw [if_neg c1] at p1
    by_cases c2 : 1 < gb
    · obtain ⟨g, rfl⟩ : ∃ g, gb = g + 1 := ⟨gb - 1, by omega⟩
      rw [if_neg (by omega), show g + 1 - 1 = g by omega] at p1
      have d2 : ¬ nI g ≤ nI 0 := nI_ge (by omega) (by omega)
      have p2 := zJ_a h (k := 4 + g) (by omega)
      rw [(o2 g (by omega)).1] at p2
      have g2' : F_X6_get (z + 214) (nI qy) (nI (15 + 3 * m + j)) S = some (nI g, S) := g2
      have p1' : F_X6_put (z + 214) (nI 25) (nI (15 + 3 * m + j)) (nI (w g)) S = some S1 := p1
      rcases (show ga = 0 ∨ ga = 1 by omega) with e | e
      · rw [e] at g1
        have g1' : F_X6_get (z + 214) (nI qx) (nI (15 + 3 * m + j)) S = some (m1, S) := g1
        simp only [F_X6_joinSample_L3, F_X6_joinSample_J100, l_0, l_1, l_2, l_3, l_4, l_5, l_6, l_7, l_8, l_9, l_10, l_11, l_12, l_13, l_14, l_15, l_16, l_17, l_18, l_19, l_20, l_21, l_24, l_25, l_26, l_27, l_31, l_33, l_41, l_65, l_67, l_71, l_84, l_120, l_127, l_128, l_130, l_160, l_162, l_200, l_255, l_256, l_999, l_1000, l_8000, l_9999, l_10000, l_8001, l_m1, c, t_k214 hS, nI_mul, nI_add, g1', g2', am, d2, t_r214_10 hS, p2, p1', bd2_some, bdx_inl, bdx_inr, bdc_inl, bdc_inr, obd_some, ↓reduceIte]
      · rw [e] at g1
        have g1' : F_X6_get (z + 214) (nI qx) (nI (15 + 3 * m + j)) S = some (nI 0, S) := g1
        simp only [F_X6_joinSample_L3, F_X6_joinSample_J100, l_0, l_1, l_2, l_3, l_4, l_5, l_6, l_7, l_8, l_9, l_10, l_11, l_12, l_13, l_14, l_15, l_16, l_17, l_18, l_19, l_20, l_21, l_24, l_25, l_26, l_27, l_31, l_33, l_41, l_65, l_67, l_71, l_84, l_120, l_127, l_128, l_130, l_160, l_162, l_200, l_255, l_256, l_999, l_1000, l_8000, l_9999, l_10000, l_8001, l_m1, c, t_k214 hS, nI_mul, nI_add, g1', g2', a00, d2, t_r214_10 hS, p2, p1', bd2_some, bdx_inl, bdx_inr, bdc_inl, bdc_inr, obd_some, ↓reduceIte]
    · rcases (show ga = 0 ∨ ga = 1 by omega) with e | e
      · rw [e] at g1
        have g1' : F_X6_get (z + 214) (nI qx) (nI (15 + 3 * m + j)) S = some (m1, S) := g1
        rcases (show gb = 0 ∨ gb = 1 by omega) with e' | e'
        · rw [e'] at g2
          rw [e, e', if_pos rfl] at p1
          have g2' : F_X6_get (z + 214) (nI qy) (nI (15 + 3 * m + j)) S = some (m1, S) := g2
          have p1' : F_X6_put (z + 214) (nI 25) (nI (15 + 3 * m + j)) m1 S = some S1 := p1
          simp only [F_X6_joinSample_L3, F_X6_joinSample_J99, F_X6_joinSample_J100, l_0, l_1, l_2, l_3, l_4, l_5, l_6, l_7, l_8, l_9, l_10, l_11, l_12, l_13, l_14, l_15, l_16, l_17, l_18, l_19, l_20, l_21, l_24, l_25, l_26, l_27, l_31, l_33, l_41, l_65, l_67, l_71, l_84, l_120, l_127, l_128, l_130, l_160, l_162, l_200, l_255, l_256, l_999, l_1000, l_8000, l_9999, l_10000, l_8001, l_m1, c, t_k214 hS, nI_mul, nI_add, g1', g2', am, an, p1', bd2_some, bdx_inl, bdx_inr, bdc_inl, bdc_inr, obd_some, ↓reduceIte]
        · rw [e'] at g2
          rw [e', if_neg (by omega), show 1 - 1 = 0 from rfl, w0] at p1
          have g2' : F_X6_get (z + 214) (nI qy) (nI (15 + 3 * m + j)) S = some (nI 0, S) := g2
          have p1' : F_X6_put (z + 214) (nI 25) (nI (15 + 3 * m + j)) (nI 0) S = some S1 := p1
          simp only [F_X6_joinSample_L3, F_X6_joinSample_J99, F_X6_joinSample_J100, l_0, l_1, l_2, l_3, l_4, l_5, l_6, l_7, l_8, l_9, l_10, l_11, l_12, l_13, l_14, l_15, l_16, l_17, l_18, l_19, l_20, l_21, l_24, l_25, l_26, l_27, l_31, l_33, l_41, l_65, l_67, l_71, l_84, l_120, l_127, l_128, l_130, l_160, l_162, l_200, l_255, l_256, l_999, l_1000, l_8000, l_9999, l_10000, l_8001, l_m1, c, t_k214 hS, nI_mul, nI_add, g1', g2', am, an, a00, p1', bd2_some, bdx_inl, bdx_inr, bdc_inl, bdc_inr, obd_some, ↓reduceIte]
      · rw [e] at g1
        have g1' : F_X6_get (z + 214) (nI qx) (nI (15 + 3 * m + j)) S = some (nI 0, S) := g1
        have p1' : F_X6_put (z + 214) (nI 25) (nI (15 + 3 * m + j)) (nI 0) S = some S1 := by
          rcases (show gb = 0 ∨ gb = 1 by omega) with e' | e'
          · rw [e, e', if_pos rfl] at p1
            exact p1
          · rw [e', if_neg (by omega), show 1 - 1 = 0 from rfl, w0] at p1
            exact p1
        rcases (show gb = 0 ∨ gb = 1 by omega) with e' | e'
        · rw [e'] at g2
          have g2' : F_X6_get (z + 214) (nI qy) (nI (15 + 3 * m + j)) S = some (m1, S) := g2
          simp only [F_X6_joinSample_L3, F_X6_joinSample_J99, F_X6_joinSample_J100, l_0, l_1, l_2, l_3, l_4, l_5, l_6, l_7, l_8, l_9, l_10, l_11, l_12, l_13, l_14, l_15, l_16, l_17, l_18, l_19, l_20, l_21, l_24, l_25, l_26, l_27, l_31, l_33, l_41, l_65, l_67, l_71, l_84, l_120, l_127, l_128, l_130, l_160, l_162, l_200, l_255, l_256, l_999, l_1000, l_8000, l_9999, l_10000, l_8001, l_m1, c, t_k214 hS, nI_mul, nI_add, g1', g2', am, an, a00, p1', bd2_some, bdx_inl, bdx_inr, bdc_inl, bdc_inr, obd_some, ↓reduceIte]
        · rw [e'] at g2
          have g2' : F_X6_get (z + 214) (nI qy) (nI (15 + 3 * m + j)) S = some (nI 0, S) := g2
          simp only [F_X6_joinSample_L3, F_X6_joinSample_J99, F_X6_joinSample_J100, l_0, l_1, l_2, l_3, l_4, l_5, l_6, l_7, l_8, l_9, l_10, l_11, l_12, l_13, l_14, l_15, l_16, l_17, l_18, l_19, l_20, l_21, l_24, l_25, l_26, l_27, l_31, l_33, l_41, l_65, l_67, l_71, l_84, l_120, l_127, l_128, l_130, l_160, l_162, l_200, l_255, l_256, l_999, l_1000, l_8000, l_9999, l_10000, l_8001, l_m1, c, t_k214 hS, nI_mul, nI_add, g1', g2', am, an, a00, p1', bd2_some, bdx_inl, bdx_inr, bdc_inl, bdc_inr, obd_some, ↓reduceIte]
theorem zMR_H (hr : zMR W o r) (hm : m < 2) : W (o + (15 + 3 * m + 2)) = nI (aH r m) := by
  obtain ⟨-, -, -, ⟨r9, r10⟩, -⟩ := hr
  rcases (show m = 0 ∨ m = 1 by omega) with e | e <;> subst e
  · exact r9
  · exact r10
theorem m_jsm (h : zJ z S0 S R O) (hJ : zJr z S0 O qx qy rx ry w) (hm : m < 2) (hn : n ≤ 4) (hR : R 1 = nI n) : ∃ S' R', F_X6_joinSample (z + 214) (nI qx) (nI qy) (nI m) S = some S' ∧ zJ z S0 S' R' O ∧ R' (15 + 3 * m) = gI (jG rx ry w (2 * m)) ∧ R' (15 + 3 * m + 1) = gI (jG rx ry w (2 * m + 1)) ∧ R' (15 + 3 * m + 2) = nI (aH rx m * aH ry m) ∧ (∀ i, i < prs n → R' (21 + 10 * m + i) = nI (kf rx ry w (10 * m + i))) ∧ ∀ i, (i < 15 + 3 * m ∨ 18 + 3 * m ≤ i) → (i < 21 + 10 * m ∨ 21 + 10 * m + prs n ≤ i) → R' i = R i := by
  have p10 := prs_le hn
  obtain ⟨S1, a1, a2⟩ := m_jg (fu := 3997 + 1 + 1) (j := 0) h hJ hm (by omega)
  obtain ⟨S2, b1, b2⟩ := m_jg (fu := 3997 + 1) (j := 1) a2 hJ hm (by omega)
  have hS2 := zJ_St b2
  obtain ⟨⟨q1, q2⟩, ⟨r1, r2⟩, ⟨n1, n2⟩, -⟩ := id hJ
  have g1 := zJ_get b2 (q := qx) (k := 15 + 3 * m + 2) (by omega) (by omega) (by omega)
  have g2 := zJ_get b2 (q := qy) (k := 15 + 3 * m + 2) (by omega) (by omega) (by omega)
  rw [zMR_H r1 hm] at g1
  rw [zMR_H r2 hm] at g2
  obtain ⟨S3, c1, c2⟩ := zJ_put (k := 15 + 3 * m + 2) (y1 := nI (aH rx m * aH ry m)) b2 (by omega)
  obtain ⟨S4, R4, d1, d2, d3, d4⟩ := m_j153 hJ hm hn n FU 0 S3 _ c2 (by
    have e1 : ¬ 1 = 15 + 3 * m + 2 := by omega
    have e2 : ¬ 1 = 15 + 3 * m + 1 := by omega
    have e3 : ¬ 1 = 15 + 3 * m + 0 := by omega
    simp only [va_up, e1, e2, e3, ↓reduceIte]
    exact hR) (by omega) (by show n < 4000; omega)
  have p0 : prs 0 = 0 := rfl
  rw [p0] at d3 d4
  refine ⟨S4, R4, ?_, d2, ?_, ?_, ?_, fun i hi => d3 i (by omega) hi, fun i h1 h2 => ?_⟩
  · show F_X6_joinSample_L3 (3997 + 1 + 1 + 1) (z + 214) (nI qx) (nI qy) (nI m) (nI 0) S = _
    rw [a1]
    refine Eq.trans b1 ?_
    have c : nI 2 ≤ nI (1 + 1) := by decide
    simp only [F_X6_joinSample_L3, l_0, l_1, l_2, l_3, l_4, l_5, l_6, l_7, l_8, l_9, l_10, l_11, l_12, l_13, l_14, l_15, l_16, l_17, l_18, l_19, l_20, l_21, l_24, l_25, l_26, l_27, l_31, l_33, l_41, l_65, l_67, l_71, l_84, l_120, l_127, l_128, l_130, l_160, l_162, l_200, l_255, l_256, l_999, l_1000, l_8000, l_9999, l_10000, l_8001, l_m1, c, t_k214 hS2, nI_mul, nI_add, g1, g2, c1, bd2_some, bdx_inl, bdx_inr, bdc_inl, bdc_inr, obd_some, ↓reduceIte]
    exact d1
  · rw [d4 _ (by omega)]
    have e1 : ¬ 15 + 3 * m = 15 + 3 * m + 2 := by omega
    have e2 : ¬ 15 + 3 * m = 15 + 3 * m + 1 := by omega
    simp only [va_up, e1, e2, Nat.add_zero, ↓reduceIte]
  · rw [d4 _ (by omega)]
    have e1 : ¬ 15 + 3 * m + 1 = 15 + 3 * m + 2 := by omega
    simp only [va_up, e1, ↓reduceIte]
  · rw [d4 _ (by omega)]
    simp only [va_up, ↓reduceIte]
  · rw [d4 i (by omega)]
    have e1 : ¬ i = 15 + 3 * m + 2 := by omega
    have e2 : ¬ i = 15 + 3 * m + 1 := by omega
    have e3 : ¬ i = 15 + 3 * m := by omega
    simp only [va_up, e1, e2, e3, Nat.add_zero, ↓reduceIte]
end M19
