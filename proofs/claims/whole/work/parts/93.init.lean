set_option maxRecDepth 20000
/-! What the constructors leave. -/
/-- j cells are made, their places hold 0, the references rs are laid -/
def zPa (z : Nat) (S : Mem) (j : Nat) (rs : List (Nat × Nat × Nat)) : Prop := mX S = z + j ∧ (∀ i, i < j → ok S (z + i) (kL.getD i (0, 0)).1 ∧ mN S (z + i) = (kL.getD i (0, 0)).2) ∧ (∀ a k, mI S a k = nI 0) ∧ ∀ e, e ∈ rs → e.1 < j ∧ mR S (z + e.1) e.2.1 = some (z + e.2.2)
section I1
variable {S S' S1 S2 : Mem} {z i j k k' t c n : Nat} {rs rs' : List (Nat × Nat × Nat)}
theorem a_nw (h : zPa z S j rs) (hk : kL.getD j (0, 0) = (c, n)) : zPa z (nw S c n) (j + 1) rs := by
  obtain ⟨h1, h2, h3, h4⟩ := h
  refine ⟨?_, fun i hi => ?_, fun a k => ?_, fun e he => ?_⟩
  · show mX S + 1 = _
    rw [h1]; rfl
  · by_cases e : i = j
    · subst e
      rw [hk, ← h1]
      refine ⟨⟨?_, ?_⟩, ?_⟩
      · show mX S ∈ mL S ++ [mX S]
        exact List.mem_append_right _ (List.mem_singleton.mpr rfl)
      · show va_up (mK S) (mX S) c (mX S) = c
        simp only [va_up, ↓reduceIte]
      · show va_up (mN S) (mX S) n (mX S) = n
        simp only [va_up, ↓reduceIte]
    · obtain ⟨q1, q2⟩ := h2 i (by omega)
      have ne : ¬ z + i = mX S := by omega
      refine ⟨⟨?_, ?_⟩, ?_⟩
      · show z + i ∈ mL S ++ [mX S]
        exact List.mem_append_left _ q1.1
      · show va_up (mK S) (mX S) c (z + i) = _
        simp only [va_up, ne, ↓reduceIte]
        exact q1.2
      · show va_up (mN S) (mX S) n (z + i) = _
        simp only [va_up, ne, ↓reduceIte]
        exact q2
  · show va_up (mI S) (mX S) (fun _ => 0) a k = nI 0
    by_cases e : a = mX S
    · simp only [va_up, e, ↓reduceIte]; rfl
    · simp only [va_up, e, ↓reduceIte]; exact h3 a k
  · obtain ⟨q1, q2⟩ := h4 e he
    refine ⟨by omega, ?_⟩
    show va_up (mR S) (mX S) (fun _ => none) (z + e.1) e.2.1 = _
    have ne : ¬ z + e.1 = mX S := by omega
    simp only [va_up, ne, ↓reduceIte]
    exact q2
theorem a_sR (h : zPa z S j rs) (hi : i < j) (hn : ∀ e, e ∈ rs → e.1 = i → e.2.1 < k) : zPa z (sR S (z + i) k (some (z + t))) j ((i, k, t) :: rs) := by
  obtain ⟨h1, h2, h3, h4⟩ := h
  refine ⟨h1, h2, h3, fun e he => ?_⟩
  rcases List.mem_cons.mp he with e' | he
  · subst e'
    exact ⟨hi, up2_self _ _ _ _⟩
  · obtain ⟨q1, q2⟩ := h4 e he
    refine ⟨q1, Eq.trans (up2_ne (mR S) (some (z + t)) (fun w => ?_)) q2⟩
    have := hn e he (by omega)
    omega
theorem a_ppF (h : zPa z S j rs) (hi : i < j) (hc : (kL.getD i (0, 0)).1 = c) (hn : ∀ e, e ∈ rs → e.1 = i → e.2.1 < k) : ∃ S', ppF c k S (z + i) (z + t) = some S' ∧ zPa z S' j ((i, k, t) :: rs) :=
  ⟨_, if_pos (by have := (h.2.1 i hi).1; rw [hc] at this; exact this), a_sR h hi hn⟩
theorem a_sI (h : zPa z S j rs) : zPa z (sI S (z + i) k (nI 0)) j rs := by
  obtain ⟨h1, h2, h3, h4⟩ := h
  refine ⟨h1, h2, fun a k' => ?_, h4⟩
  rw [mI_sI]
  split
  · rfl
  · exact h3 a k'
theorem a_ppI (h : zPa z S j rs) (hi : i < j) (hc : (kL.getD i (0, 0)).1 = c) : ∃ S', ppI c k S (z + i) 0 = some S' ∧ zPa z S' j rs :=
  ⟨_, if_pos (by have := (h.2.1 i hi).1; rw [hc] at this; exact this), a_sI h⟩
theorem a_ppZ (h : zPa z S j rs) (hi : i < j) (hc : (kL.getD i (0, 0)).1 = c) : ∃ S', ppZ c k S (z + i) 0 = some S' ∧ zPa z S' j rs :=
  ⟨_, if_pos ⟨by have := (h.2.1 i hi).1; rw [hc] at this; exact this, Or.inl rfl⟩, a_sI h⟩
theorem up_c (h : ∀ e, e ∈ rs → e.1 = i → e.2.1 < k) (hk : k < k') : ∀ e, e ∈ (i, k, t) :: rs → e.1 = i → e.2.1 < k' := by
  intro e he e1
  rcases List.mem_cons.mp he with e' | he
  · subst e'; exact hk
  · have := h e he e1
    omega
theorem lt_c (h : zPa z S j rs) : ∀ e, e ∈ rs → e.1 = j → e.2.1 < k := fun e he e1 => by
  have := (h.2.2.2 e he).1
  omega
/-- a Variant is made -/
theorem a_X4 (h : zPa z S i rs) (hk : ∀ t, t < 7 → kL.getD (i + t) (0, 0) = kV.getD t (0, 0)) : ∃ S' rs', F_X4_init (z + i) (nw S 4 0) = some S' ∧ zPa z S' (i + 7) rs' ∧ (∀ e, e ∈ rs → e ∈ rs') ∧ (∀ t, t < 6 → (i, 3 + t, i + 1 + t) ∈ rs') ∧ ∀ e, e ∈ rs' → e ∈ rs ∨ e.1 = i := by
  have k0 := hk 0 (by omega)
  rw [Nat.add_zero] at k0
  have hc : (kL.getD i (0, 0)).1 = 4 := by rw [k0]; rfl
  have lt0 := lt_c (k := 3) h
  have n0 := a_nw (c := 4) (n := 0) h k0
  have n1 := a_nw (c := 7) (n := 4) n0 (hk 1 (by omega))
  obtain ⟨S1, p1, q1⟩ := a_ppF (k := 3) (t := i + 1) (c := 4) n1 (show i < i + 1 + 1 by omega) hc lt0
  have n2 := a_nw (c := 7) (n := 4) q1 (hk 2 (by omega))
  obtain ⟨S2, p2, q2⟩ := a_ppF (k := 4) (t := i + 2) (c := 4) n2 (show i < i + 1 + 1 + 1 by omega) hc (up_c lt0 (by omega))
  have n3 := a_nw (c := 7) (n := 4) q2 (hk 3 (by omega))
  obtain ⟨S3, p3, q3⟩ := a_ppF (k := 5) (t := i + 3) (c := 4) n3 (show i < i + 1 + 1 + 1 + 1 by omega) hc (up_c (up_c lt0 (by omega)) (by omega))
  have n4 := a_nw (c := 7) (n := 4) q3 (hk 4 (by omega))
  obtain ⟨S4, p4, q4⟩ := a_ppF (k := 6) (t := i + 4) (c := 4) n4 (show i < i + 1 + 1 + 1 + 1 + 1 by omega) hc (up_c (up_c (up_c lt0 (by omega)) (by omega)) (by omega))
  have n5 := a_nw (c := 8) (n := 2) q4 (hk 5 (by omega))
  obtain ⟨S5, p5, q5⟩ := a_ppF (k := 7) (t := i + 5) (c := 4) n5 (show i < i + 1 + 1 + 1 + 1 + 1 + 1 by omega) hc (up_c (up_c (up_c (up_c lt0 (by omega)) (by omega)) (by omega)) (by omega))
  have n6 := a_nw (c := 7) (n := 20) q5 (hk 6 (by omega))
  obtain ⟨S6, p6, q6⟩ := a_ppF (k := 8) (t := i + 6) (c := 4) n6 (show i < i + 1 + 1 + 1 + 1 + 1 + 1 + 1 by omega) hc (up_c (up_c (up_c (up_c (up_c lt0 (by omega)) (by omega)) (by omega)) (by omega)) (by omega))
  refine ⟨S6, _, ?_, q6, fun e he => ?_, fun t ht => ?_, fun e he => ?_⟩
  · have x0 : mX (nw S 4 0) = z + (i + 1) := n0.1
    have x1 : mX S1 = z + (i + 2) := q1.1
    have x2 : mX S2 = z + (i + 3) := q2.1
    have x3 : mX S3 = z + (i + 4) := q3.1
    have x4 : mX S4 = z + (i + 5) := q4.1
    have x5 : mX S5 = z + (i + 6) := q5.1
    simp only [F_X4_init, x0, p1, x1, p2, x2, p3, x3, p4, x4, p5, x5, p6, obd_some]
  · simp only [List.mem_cons]
    exact Or.inr (Or.inr (Or.inr (Or.inr (Or.inr (Or.inr he)))))
  · simp only [List.mem_cons]
    rcases (show t = 0 ∨ t = 1 ∨ t = 2 ∨ t = 3 ∨ t = 4 ∨ t = 5 by omega) with e | e | e | e | e | e <;> subst e
    · exact Or.inr (Or.inr (Or.inr (Or.inr (Or.inr (Or.inl rfl)))))
    · exact Or.inr (Or.inr (Or.inr (Or.inr (Or.inl rfl))))
    · exact Or.inr (Or.inr (Or.inr (Or.inl rfl)))
    · exact Or.inr (Or.inr (Or.inl rfl))
    · exact Or.inr (Or.inl rfl)
    · exact Or.inl rfl
  · simp only [List.mem_cons] at he
    rcases he with e | e | e | e | e | e | e
    · subst e; exact Or.inr rfl
    · subst e; exact Or.inr rfl
    · subst e; exact Or.inr rfl
    · subst e; exact Or.inr rfl
    · subst e; exact Or.inr rfl
    · subst e; exact Or.inr rfl
    · exact Or.inl e
theorem kL_var : ∀ m, m < 24 → ∀ t, t < 7 → kL.getD (5 + 7 * m + t) (0, 0) = kV.getD t (0, 0) := by decide +kernel
theorem kL_v2 : ∀ o, o ∈ [173, 180, 188, 195, 202] → ∀ t, t < 7 → kL.getD (o + t) (0, 0) = kV.getD t (0, 0) := by decide +kernel
/-- the Variants of the list -/
theorem a_X2_L : ∀ (q fu m : Nat) (S : Mem) (rs : List (Nat × Nat × Nat)), zPa z S (5 + 7 * m) rs → m + q = 24 → q < fu → (3, 0, 4) ∈ rs → (∀ e, e ∈ rs → e.1 = 4 → e.2.1 < m) → ∃ S' rs', F_X2_init_L15 fu (z + 3) (nI m) S = some S' ∧ zPa z S' 173 rs' ∧ (∀ e, e ∈ rs → e ∈ rs') ∧ (∀ k, m ≤ k → k < 24 → (4, k, 5 + 7 * k) ∈ rs' ∧ ∀ t, t < 6 → (5 + 7 * k, 3 + t, 5 + 7 * k + 1 + t) ∈ rs') ∧ ∀ e, e ∈ rs' → e ∈ rs ∨ 4 ≤ e.1 := by
  intro q
  induction q with
  | zero =>
    intro fu m S rs h hm hf h3 h4
    obtain ⟨fu, rfl⟩ : ∃ f, fu = f + 1 := ⟨fu - 1, by omega⟩
    have e : m = 24 := by omega
    subst e
    obtain ⟨S1, p1, q1⟩ := a_ppI (c := 2) (k := 1) h (show 3 < 5 + 7 * 24 by omega) (by decide +kernel)
    have c : (24 : Int32) ≤ nI 24 := by decide
    refine ⟨S1, rs, ?_, q1, fun e he => he, fun k h1 h2 => by omega, fun e he => Or.inl he⟩
    rw [F_X2_init_L15, if_pos c, p1, obd_some]
  | succ q ih =>
    intro fu m S rs h hm hf h3 h4
    obtain ⟨fu, rfl⟩ : ∃ f, fu = f + 1 := ⟨fu - 1, by omega⟩
    have c : ¬ (24 : Int32) ≤ nI m := nI_ge (a := m) (b := 24) (by omega) (by omega)
    have g1 : pgR 2 0 S (z + 3) = some (z + 4) := by
      have o := (h.2.1 3 (by omega)).1
      rw [show (kL.getD 3 (0, 0)).1 = 2 by decide +kernel] at o
      unfold pgR
      rw [if_pos (show z + 3 ∈ mL S ∧ mK S (z + 3) = 2 from o)]
      exact (h.2.2.2 _ h3).2
    obtain ⟨S1, rs1, a1, a2, a3, a4, a5⟩ := a_X4 h (kL_var m (by omega))
    have x0 : mX S = z + (5 + 7 * m) := h.1
    have lt4 : ∀ e, e ∈ rs1 → e.1 = 4 → e.2.1 < m := fun e he e1 => by
      rcases a5 e he with w | w
      · exact h4 e w e1
      · omega
    have p1 : psR S1 (z + 4) (nI m) (z + (5 + 7 * m)) = some (sR S1 (z + 4) m (some (z + (5 + 7 * m)))) := by
      have o4 := a2.2.1 4 (by omega)
      have o5 := a2.2.1 (5 + 7 * m) (by omega)
      have kv := kL_var m (by omega) 0 (by omega)
      rw [Nat.add_zero] at kv
      rw [kv] at o5
      unfold psR
      rw [if_pos]
      · rw [show (nI m).toNatClampNeg = m from nI_clamp (by omega)]
      · refine ⟨⟨o4.1, ?_⟩, o5.1⟩
        rw [o4.2, show (nI m).toNatClampNeg = m from nI_clamp (by omega)]
        rintro (w | w)
        · exact absurd w (nI_nlt (b := 0) (Nat.zero_le _) (by omega))
        · have w' : 24 ≤ m := w
          omega
    have a6 := a_sR (i := 4) (k := m) (t := 5 + 7 * m) a2 (by omega) lt4
    rw [show 5 + 7 * m + 7 = 5 + 7 * (m + 1) by omega] at a6
    obtain ⟨S2, rs2, b1, b2, b3, b4, b5⟩ := ih fu (m + 1) _ _ a6 (by omega) (by omega) (List.mem_cons_of_mem _ (a3 _ h3)) (up_c lt4 (by omega))
    refine ⟨S2, rs2, ?_, b2, fun e he => b3 e (List.mem_cons_of_mem _ (a3 e he)), fun k h1 h2 => ?_, fun e he => ?_⟩
    · rw [F_X2_init_L15, if_neg c, g1, obd_some, x0, a1, obd_some, p1, obd_some, show nI m + 1 = nI (m + 1) from nI_1 m]
      exact b1
    · by_cases ek : k = m
      · subst ek
        exact ⟨b3 _ List.mem_cons_self, fun t ht => b3 _ (List.mem_cons_of_mem _ (a4 t ht))⟩
      · exact b4 k (by omega) h2
    · rcases b5 e he with w | w
      · rcases List.mem_cons.mp w with w | w
        · subst w; exact Or.inr (Nat.le_refl _)
        · rcases a5 e w with w | w
          · exact Or.inl w
          · exact Or.inr (by omega)
      · exact Or.inr w
/-- a row of bytes is made -/
theorem a_X0 (h : zPa z S i rs) (k0 : kL.getD i (0, 0) = (0, 0)) (k1 : kL.getD (i + 1) (0, 0) = (7, 120)) : ∃ S' rs', F_X0_init (z + i) (nw S 0 0) = some S' ∧ zPa z S' (i + 2) rs' ∧ (∀ e, e ∈ rs → e ∈ rs') ∧ (i, 0, i + 1) ∈ rs' ∧ ∀ e, e ∈ rs' → e ∈ rs ∨ e.1 = i := by
  have hc : (kL.getD i (0, 0)).1 = 0 := by rw [k0]
  have n0 := a_nw h k0
  have n1 := a_nw n0 k1
  obtain ⟨S1, p1, q1⟩ := a_ppF (k := 0) (t := i + 1) (c := 0) n1 (show i < i + 1 + 1 by omega) hc (fun e he e1 => by have := (h.2.2.2 e he).1; omega)
  obtain ⟨S2, p2, q2⟩ := a_ppI (c := 0) (k := 1) q1 (show i < i + 1 + 1 by omega) hc
  obtain ⟨S3, p3, q3⟩ := a_ppI (c := 0) (k := 2) q2 (show i < i + 1 + 1 by omega) hc
  refine ⟨S3, _, ?_, q3, fun e he => List.mem_cons_of_mem _ he, List.mem_cons_self, fun e he => ?_⟩
  · have x0 : mX (nw S 0 0) = z + (i + 1) := n0.1
    simp only [F_X0_init, x0, p1, p2, p3, obd_some]
  · rcases List.mem_cons.mp he with w | w
    · subst w; exact Or.inr rfl
    · exact Or.inl w
/-- the Joiner is made -/
theorem a_X1 (h : zPa z S 187 rs) : ∃ S' rs', F_X1_init (z + 187) (nw S 1 0) = some S' ∧ zPa z S' 210 rs' ∧ (∀ e, e ∈ rs → e ∈ rs') ∧ ((187, 0, 188) ∈ rs' ∧ (187, 1, 195) ∈ rs' ∧ (187, 2, 202) ∈ rs' ∧ (187, 3, 209) ∈ rs') ∧ (∀ o, o ∈ [188, 195, 202] → ∀ t, t < 6 → (o, 3 + t, o + 1 + t) ∈ rs') ∧ ∀ e, e ∈ rs' → e ∈ rs ∨ 187 ≤ e.1 := by
  have hc : (kL.getD 187 (0, 0)).1 = 1 := by decide +kernel
  have lt0 := lt_c (k := 0) h
  have n0 := a_nw (c := 1) (n := 0) h (by decide +kernel)
  obtain ⟨S1, r1, a1, a2, a3, a4, a5⟩ := a_X4 n0 (kL_v2 188 (by decide))
  obtain ⟨S2, p1, q1⟩ := a_ppF (i := 187) (k := 0) (t := 188) (c := 1) a2 (by omega) hc (fun e he e1 => by
    rcases a5 e he with w | w
    · exact lt0 e w e1
    · omega)
  have L1 : ∀ e, e ∈ (187, 0, 188) :: r1 → e.1 = 187 → e.2.1 < 1 := up_c (fun e he e1 => by
    rcases a5 e he with w | w
    · exact lt0 e w e1
    · omega) (by omega)
  obtain ⟨S3, r3, b1, b2, b3, b4, b5⟩ := a_X4 q1 (kL_v2 195 (by decide))
  have L2 : ∀ e, e ∈ r3 → e.1 = 187 → e.2.1 < 1 := fun e he e1 => by
    rcases b5 e he with w | w
    · exact L1 e w e1
    · omega
  obtain ⟨S4, p2, q2⟩ := a_ppF (i := 187) (k := 1) (t := 195) (c := 1) b2 (by omega) hc L2
  obtain ⟨S5, r5, c1, c2, c3, c4, c5⟩ := a_X4 q2 (kL_v2 202 (by decide))
  have L3 : ∀ e, e ∈ r5 → e.1 = 187 → e.2.1 < 2 := fun e he e1 => by
    rcases c5 e he with w | w
    · exact up_c (k' := 2) L2 (by omega) e w e1
    · omega
  obtain ⟨S6, p3, q3⟩ := a_ppF (i := 187) (k := 2) (t := 202) (c := 1) c2 (by omega) hc L3
  have n1 := a_nw (c := 7) (n := 4) q3 (by decide +kernel)
  obtain ⟨S7, p4, q4⟩ := a_ppF (i := 187) (k := 3) (t := 209) (c := 1) n1 (by omega) hc (up_c L3 (by omega))
  have x0 : mX (nw S 1 0) = z + 188 := n0.1
  have x1 : mX S2 = z + 195 := q1.1
  have x2 : mX S4 = z + 202 := q2.1
  have x3 : mX S6 = z + 209 := q3.1
  refine ⟨S7, _, ?_, q4, fun e he => ?_, ⟨?_, ?_, ?_, List.mem_cons_self⟩, fun o ho t ht => ?_, fun e he => ?_⟩
  · simp only [F_X1_init, x0]
    rw [a1, obd_some, p1, obd_some, x1, b1, obd_some, p2, obd_some, x2, c1, obd_some, p3, obd_some, x3, p4, obd_some]
  · exact List.mem_cons_of_mem _ (List.mem_cons_of_mem _ (c3 e (List.mem_cons_of_mem _ (b3 e (List.mem_cons_of_mem _ (a3 e he))))))
  · exact List.mem_cons_of_mem _ (List.mem_cons_of_mem _ (c3 _ (List.mem_cons_of_mem _ (b3 _ List.mem_cons_self))))
  · exact List.mem_cons_of_mem _ (List.mem_cons_of_mem _ (c3 _ List.mem_cons_self))
  · exact List.mem_cons_of_mem _ List.mem_cons_self
  · simp only [List.mem_cons, List.not_mem_nil, or_false] at ho
    rcases ho with e | e | e <;> subst e
    · exact List.mem_cons_of_mem _ (List.mem_cons_of_mem _ (c3 _ (List.mem_cons_of_mem _ (b3 _ (List.mem_cons_of_mem _ (a4 t ht))))))
    · exact List.mem_cons_of_mem _ (List.mem_cons_of_mem _ (c3 _ (List.mem_cons_of_mem _ (b4 t ht))))
    · exact List.mem_cons_of_mem _ (List.mem_cons_of_mem _ (c4 t ht))
  · rcases List.mem_cons.mp he with w | w
    · subst w; exact Or.inr (by omega)
    · rcases List.mem_cons.mp w with w | w
      · subst w; exact Or.inr (by omega)
      · rcases c5 e w with w | w
        · rcases List.mem_cons.mp w with w | w
          · subst w; exact Or.inr (by omega)
          · rcases b5 e w with w | w
            · rcases List.mem_cons.mp w with w | w
              · subst w; exact Or.inr (by omega)
              · rcases a5 e w with w | w
                · exact Or.inl w
                · exact Or.inr (by omega)
            · exact Or.inr (by omega)
        · exact Or.inr (by omega)
/-- the kit is made -/
theorem a_X5 (h : zPa z S 0 rs) : ∃ S' rs', F_X5_init z (nw S 5 0) = some S' ∧ zPa z S' 214 rs' ∧ ((0, 0, 1) ∈ rs' ∧ (0, 1, 3) ∈ rs' ∧ (0, 2, 173) ∈ rs' ∧ (0, 4, 180) ∈ rs' ∧ (0, 5, 187) ∈ rs' ∧ (0, 6, 210) ∈ rs' ∧ (0, 7, 212) ∈ rs' ∧ (1, 0, 2) ∈ rs' ∧ (3, 0, 4) ∈ rs') ∧ (∀ k, k < 24 → (4, k, 5 + 7 * k) ∈ rs') ∧ (∀ o, o ∈ vO → ∀ t, t < 6 → (o, 3 + t, o + 1 + t) ∈ rs') ∧ ((187, 0, 188) ∈ rs' ∧ (187, 1, 195) ∈ rs' ∧ (187, 2, 202) ∈ rs' ∧ (187, 3, 209) ∈ rs') ∧ (210, 0, 211) ∈ rs' ∧ (212, 0, 213) ∈ rs' := by
  have hc : (kL.getD 0 (0, 0)).1 = 5 := by decide +kernel
  have n0 := a_nw (c := 5) (n := 0) h (by decide +kernel)
  have e0 : ∀ e, e ∈ rs → False := fun e he => by have := (h.2.2.2 e he).1; omega
  -- the bases
  have n1 := a_nw (c := 3) (n := 0) n0 (by decide +kernel)
  have n2 := a_nw (c := 7) (n := 160) n1 (by decide +kernel)
  obtain ⟨S1, p1, q1⟩ := a_ppF (i := 1) (k := 0) (t := 2) (c := 3) n2 (by omega) (by decide +kernel) (fun e he => absurd he (fun w => e0 e w))
  obtain ⟨S2, p2, q2⟩ := a_ppI (i := 1) (c := 3) (k := 1) q1 (by omega) (by decide +kernel)
  have A1 : ∀ e, e ∈ (1, 0, 2) :: rs → e.1 = 0 → e.2.1 < 0 := fun e he e1 => by
    rcases List.mem_cons.mp he with w | w
    · subst w; omega
    · exact absurd w (fun w => e0 e w)
  obtain ⟨S3, p3, q3⟩ := a_ppF (i := 0) (k := 0) (t := 1) (c := 5) q2 (by omega) hc A1
  have L3 := up_c (t := 1) (k' := 1) A1 (by omega)
  -- the list
  have n3 := a_nw (c := 2) (n := 0) q3 (by decide +kernel)
  have n4 := a_nw (c := 9) (n := 24) n3 (by decide +kernel)
  obtain ⟨S4, p4, q4⟩ := a_ppF (i := 3) (k := 0) (t := 4) (c := 2) n4 (by omega) (by decide +kernel) (fun e he e1 => by have := (q3.2.2.2 e he).1; omega)
  obtain ⟨S5, r5, a1, a2, a3, a4, a5⟩ := a_X2_L (z := z) 24 FU 0 S4 _ q4 (by omega) (by show 24 < 4000; omega) List.mem_cons_self (fun e he e1 => by
    rcases List.mem_cons.mp he with w | w
    · subst w; omega
    · have := (q3.2.2.2 e w).1; omega)
  have L5 : ∀ e, e ∈ r5 → e.1 = 0 → e.2.1 < 1 := fun e he e1 => by
    rcases a5 e he with w | w
    · rcases List.mem_cons.mp w with w | w
      · subst w; omega
      · exact L3 e w e1
    · omega
  obtain ⟨S6, p6, q6⟩ := a_ppF (i := 0) (k := 1) (t := 3) (c := 5) a2 (by omega) hc L5
  have L6 := up_c (t := 3) (k' := 2) L5 (by omega)
  -- draft and scratch
  obtain ⟨S7, r7, b1, b2, b3, b4, b5⟩ := a_X4 q6 (kL_v2 173 (by decide))
  have L7 : ∀ e, e ∈ r7 → e.1 = 0 → e.2.1 < 2 := fun e he e1 => by
    rcases b5 e he with w | w
    · exact L6 e w e1
    · omega
  obtain ⟨S8, p8, q8⟩ := a_ppF (i := 0) (k := 2) (t := 173) (c := 5) b2 (by omega) hc L7
  have L8 := up_c (t := 173) (k' := 3) L7 (by omega)
  obtain ⟨S9, p9, q9⟩ := a_ppZ (i := 0) (c := 5) (k := 3) q8 (by omega) hc
  obtain ⟨S10, r10, c1, c2, c3, c4, c5⟩ := a_X4 q9 (kL_v2 180 (by decide))
  have L10 : ∀ e, e ∈ r10 → e.1 = 0 → e.2.1 < 4 := fun e he e1 => by
    rcases c5 e he with w | w
    · have := L8 e w e1; omega
    · omega
  obtain ⟨S11, p11, q11⟩ := a_ppF (i := 0) (k := 4) (t := 180) (c := 5) c2 (by omega) hc L10
  have L11 := up_c (t := 180) (k' := 5) L10 (by omega)
  -- the joiner
  obtain ⟨S12, r12, d1, d2, d3, d4, d5, d6⟩ := a_X1 q11
  have L12 : ∀ e, e ∈ r12 → e.1 = 0 → e.2.1 < 5 := fun e he e1 => by
    rcases d6 e he with w | w
    · exact L11 e w e1
    · omega
  obtain ⟨S13, p13, q13⟩ := a_ppF (i := 0) (k := 5) (t := 187) (c := 5) d2 (by omega) hc L12
  have L13 := up_c (t := 187) (k' := 6) L12 (by omega)
  -- the rows of bytes
  obtain ⟨S14, r14, f1, f2, f3, f4, f5⟩ := a_X0 q13 (by decide +kernel) (by decide +kernel)
  have L14 : ∀ e, e ∈ r14 → e.1 = 0 → e.2.1 < 6 := fun e he e1 => by
    rcases f5 e he with w | w
    · exact L13 e w e1
    · omega
  obtain ⟨S15, p15, q15⟩ := a_ppF (i := 0) (k := 6) (t := 210) (c := 5) f2 (by omega) hc L14
  have L15 := up_c (t := 210) (k' := 7) L14 (by omega)
  obtain ⟨S16, r16, g1, g2, g3, g4, g5⟩ := a_X0 q15 (by decide +kernel) (by decide +kernel)
  have L16 : ∀ e, e ∈ r16 → e.1 = 0 → e.2.1 < 7 := fun e he e1 => by
    rcases g5 e he with w | w
    · exact L15 e w e1
    · omega
  obtain ⟨S17, p17, q17⟩ := a_ppF (i := 0) (k := 7) (t := 212) (c := 5) g2 (by omega) hc L16
  have x0 : mX (nw S 5 0) = z + 1 := n0.1
  have x1 : mX (nw (nw S 5 0) 3 0) = z + 2 := n1.1
  have x3 : mX S3 = z + 3 := q3.1
  have x4 : mX (nw S3 2 0) = z + 4 := n3.1
  have x6 : mX S6 = z + 173 := q6.1
  have x9 : mX S9 = z + 180 := q9.1
  have x11 : mX S11 = z + 187 := q11.1
  have x13 : mX S13 = z + 210 := q13.1
  have x15 : mX S15 = z + 212 := q15.1
  -- what is laid stays laid
  have u16 : ∀ e, e ∈ r16 → e ∈ (0, 7, 212) :: r16 := fun e he => List.mem_cons_of_mem _ he
  have u15 : ∀ e, e ∈ (0, 6, 210) :: r14 → e ∈ (0, 7, 212) :: r16 := fun e he => u16 e (g3 e he)
  have u14 : ∀ e, e ∈ r14 → e ∈ (0, 7, 212) :: r16 := fun e he => u15 e (List.mem_cons_of_mem _ he)
  have u13 : ∀ e, e ∈ (0, 5, 187) :: r12 → e ∈ (0, 7, 212) :: r16 := fun e he => u14 e (f3 e he)
  have u12 : ∀ e, e ∈ r12 → e ∈ (0, 7, 212) :: r16 := fun e he => u13 e (List.mem_cons_of_mem _ he)
  have u11 : ∀ e, e ∈ (0, 4, 180) :: r10 → e ∈ (0, 7, 212) :: r16 := fun e he => u12 e (d3 e he)
  have u10 : ∀ e, e ∈ r10 → e ∈ (0, 7, 212) :: r16 := fun e he => u11 e (List.mem_cons_of_mem _ he)
  have u8 : ∀ e, e ∈ (0, 2, 173) :: r7 → e ∈ (0, 7, 212) :: r16 := fun e he => u10 e (c3 e he)
  have u7 : ∀ e, e ∈ r7 → e ∈ (0, 7, 212) :: r16 := fun e he => u8 e (List.mem_cons_of_mem _ he)
  have u6 : ∀ e, e ∈ (0, 1, 3) :: r5 → e ∈ (0, 7, 212) :: r16 := fun e he => u7 e (b3 e he)
  have u5 : ∀ e, e ∈ r5 → e ∈ (0, 7, 212) :: r16 := fun e he => u6 e (List.mem_cons_of_mem _ he)
  have u4 : ∀ e, e ∈ (3, 0, 4) :: (0, 0, 1) :: (1, 0, 2) :: rs → e ∈ (0, 7, 212) :: r16 := fun e he => u5 e (a3 e he)
  refine ⟨S17, _, ?_, q17, ⟨?_, ?_, ?_, ?_, ?_, ?_, ?_, ?_, ?_⟩, fun k hk => ?_, fun o ho t ht => ?_, ⟨u12 _ d4.1, u12 _ d4.2.1, u12 _ d4.2.2.1, u12 _ d4.2.2.2⟩, u14 _ f4, u16 _ g4⟩
  · have f3' : F_X3_init (z + 1) (nw (nw S 5 0) 3 0) = some S2 := by
      simp only [F_X3_init, x1, p1, p2, obd_some]
    have f2' : F_X2_init (z + 3) (nw S3 2 0) = some S5 := by
      simp only [F_X2_init, x4, p4, obd_some]
      exact a1
    have z0 : ∀ c k S t, ppF c k S z t = ppF c k S (z + 0) t := fun _ _ _ _ => rfl
    have z1 : ∀ c k S t, ppZ c k S z t = ppZ c k S (z + 0) t := fun _ _ _ _ => rfl
    unfold F_X5_init
    rw [x0, f3', obd_some, z0, p3, obd_some, x3, f2', obd_some, z0, p6, obd_some, x6, b1, obd_some, z0, p8, obd_some, z1, p9, obd_some, x9, c1, obd_some, z0, p11, obd_some, x11, d1, obd_some, z0, p13, obd_some, x13, f1, obd_some, z0, p15, obd_some, x15, g1, obd_some, z0, p17, obd_some]
  · exact u4 _ (List.mem_cons_of_mem _ List.mem_cons_self)
  · exact u6 _ List.mem_cons_self
  · exact u8 _ List.mem_cons_self
  · exact u11 _ List.mem_cons_self
  · exact u13 _ List.mem_cons_self
  · exact u15 _ List.mem_cons_self
  · exact List.mem_cons_self
  · exact u4 _ (List.mem_cons_of_mem _ (List.mem_cons_of_mem _ List.mem_cons_self))
  · exact u4 _ List.mem_cons_self
  · exact u5 _ (a4 k (by omega) hk).1
  · have ho' : o ∈ (List.range 26).map (fun i => 5 + 7 * i) ++ [188, 195, 202] := ho
    rcases List.mem_append.mp ho' with w | w
    · obtain ⟨m, hm, e⟩ := List.mem_map.mp w
      have hm' := List.mem_range.mp hm
      subst e
      by_cases e1 : m = 24
      · subst e1; exact u7 _ (b4 t ht)
      · by_cases e2 : m = 25
        · subst e2; exact u10 _ (c4 t ht)
        · exact u5 _ ((a4 m (by omega) (by omega)).2 t ht)
    · exact u12 _ (d5 o w t ht)
/-- the reference is made -/
theorem a_X6 (h : zPa z S 214 rs) : ∃ S' rs', F_X6_init (z + 214) (nw S 6 0) = some S' ∧ zPa z S' 220 rs' ∧ (∀ e, e ∈ rs → e ∈ rs') ∧ ((214, 1, 215) ∈ rs' ∧ (214, 5, 216) ∈ rs' ∧ (214, 6, 217) ∈ rs' ∧ (214, 8, 218) ∈ rs' ∧ (214, 10, 219) ∈ rs') := by
  have hc : (kL.getD 214 (0, 0)).1 = 6 := by decide +kernel
  have lt0 := lt_c (k := 1) h
  have n0 := a_nw (c := 6) (n := 0) h (by decide +kernel)
  have n1 := a_nw (c := 7) (n := 162) n0 (by decide +kernel)
  obtain ⟨S1, p1, q1⟩ := a_ppF (i := 214) (k := 1) (t := 215) (c := 6) n1 (by omega) hc lt0
  have n2 := a_nw (c := 7) (n := 1230) q1 (by decide +kernel)
  obtain ⟨S2, p2, q2⟩ := a_ppF (i := 214) (k := 5) (t := 216) (c := 6) n2 (by omega) hc (up_c lt0 (by omega))
  have n3 := a_nw (c := 7) (n := 130) q2 (by decide +kernel)
  obtain ⟨S3, p3, q3⟩ := a_ppF (i := 214) (k := 6) (t := 217) (c := 6) n3 (by omega) hc (up_c (up_c lt0 (by omega)) (by omega))
  have n4 := a_nw (c := 7) (n := 130) q3 (by decide +kernel)
  obtain ⟨S4, p4, q4⟩ := a_ppF (i := 214) (k := 8) (t := 218) (c := 6) n4 (by omega) hc (up_c (up_c (up_c lt0 (by omega)) (by omega)) (by omega))
  have n5 := a_nw (c := 7) (n := 8) q4 (by decide +kernel)
  obtain ⟨S5, p5, q5⟩ := a_ppF (i := 214) (k := 10) (t := 219) (c := 6) n5 (by omega) hc (up_c (up_c (up_c (up_c lt0 (by omega)) (by omega)) (by omega)) (by omega))
  have x0 : mX (nw S 6 0) = z + 215 := n0.1
  have x1 : mX S1 = z + 216 := q1.1
  have x2 : mX S2 = z + 217 := q2.1
  have x3 : mX S3 = z + 218 := q3.1
  have x4 : mX S4 = z + 219 := q4.1
  refine ⟨S5, _, ?_, q5, fun e he => ?_, ?_, ?_, ?_, ?_, ?_⟩
  · unfold F_X6_init
    rw [x0, p1, obd_some, x1, p2, obd_some, x2, p3, obd_some, x3, p4, obd_some, x4, p5, obd_some]
  · simp only [List.mem_cons]
    exact Or.inr (Or.inr (Or.inr (Or.inr (Or.inr he))))
  · simp only [List.mem_cons, true_or, or_true]
  · simp only [List.mem_cons, true_or, or_true]
  · simp only [List.mem_cons, true_or, or_true]
  · simp only [List.mem_cons, true_or, or_true]
  · simp only [List.mem_cons, true_or, or_true]
def S00 (z : Nat) : Mem := ([], fun _ => 0, fun _ => 0, fun _ _ => 0, fun _ _ => none, fun _ _ => 0, fun _ _ => 0, z)
def as0 : As := (0, fun _ => 0, false, rd0, [], [])
theorem rL_in {P : Nat × Nat × Nat → Prop} (h1 : P (0, 0, 1) ∧ P (0, 1, 3) ∧ P (0, 2, 173) ∧ P (0, 4, 180) ∧ P (0, 5, 187) ∧ P (0, 6, 210) ∧ P (0, 7, 212) ∧ P (1, 0, 2) ∧ P (3, 0, 4)) (h2 : ∀ o, o ∈ vO → ∀ t, t < 6 → P (o, 3 + t, o + 1 + t)) (h3 : P (187, 0, 188) ∧ P (187, 1, 195) ∧ P (187, 2, 202) ∧ P (187, 3, 209)) (h4 : P (210, 0, 211)) (h5 : P (212, 0, 213)) (h6 : P (214, 1, 215) ∧ P (214, 5, 216) ∧ P (214, 6, 217) ∧ P (214, 8, 218) ∧ P (214, 10, 219)) : ∀ e, e ∈ rL → P e := by
  intro e he
  unfold rL at he
  rcases List.mem_append.mp he with he | he
  · rcases List.mem_append.mp he with he | he
    · simp only [List.mem_cons, List.not_mem_nil, or_false] at he
      obtain ⟨a1, a2, a3, a4, a5, a6, a7, a8, a9⟩ := h1
      rcases he with w | w | w | w | w | w | w | w | w <;> (rw [w]; assumption)
    · obtain ⟨l, hl, he⟩ := List.mem_flatten.mp he
      obtain ⟨o, ho, e1⟩ := List.mem_map.mp hl
      rw [← e1] at he
      obtain ⟨t, ht, e2⟩ := List.mem_map.mp he
      rw [← e2]
      exact h2 o ho t (List.mem_range.mp ht)
  · simp only [List.mem_cons, List.not_mem_nil, or_false] at he
    obtain ⟨a1, a2, a3, a4⟩ := h3
    obtain ⟨b1, b2, b3, b4, b5⟩ := h6
    rcases he with w | w | w | w | w | w | w | w | w | w | w <;> (rw [w]; assumption)
theorem lw_init (z : Nat) : ∃ S1 S2, F_X5_init z (nw (S00 z) 5 0) = some S1 ∧ mX S1 = z + 214 ∧ F_X6_init (z + 214) (nw S1 6 0) = some S2 ∧ mX S2 = z + 220 ∧ zLw z as0 (sX (nw (nw S2 10 1) 11 1)) := by
  have h0 : zPa z (S00 z) 0 [] := ⟨rfl, fun i hi => by omega, fun _ _ => rfl, fun e he => by cases he⟩
  obtain ⟨S1, r1, a1, a2, a3, a4, a5, a6, a7, a8⟩ := a_X5 h0
  obtain ⟨S2, r2, b1, b2, b3, b4⟩ := a_X6 a2
  have n1 := a_nw (c := 10) (n := 1) b2 (by decide +kernel)
  have n2 := a_nw (c := 11) (n := 1) n1 (by decide +kernel)
  obtain ⟨k1, k2, k3, k4⟩ := n2
  have hS : zSt z (sX (nw (nw S2 10 1) 11 1)) := by
    refine ⟨k2, fun e he => ?_⟩
    have : e ∈ r2 := rL_in (P := fun e => e ∈ r2) ⟨b3 _ a3.1, b3 _ a3.2.1, b3 _ a3.2.2.1, b3 _ a3.2.2.2.1, b3 _ a3.2.2.2.2.1, b3 _ a3.2.2.2.2.2.1, b3 _ a3.2.2.2.2.2.2.1, b3 _ a3.2.2.2.2.2.2.2.1, b3 _ a3.2.2.2.2.2.2.2.2⟩ (fun o ho t ht => b3 _ (a5 o ho t ht)) ⟨b3 _ a6.1, b3 _ a6.2.1, b3 _ a6.2.2.1, b3 _ a6.2.2.2⟩ (b3 _ a7) (b3 _ a8) b4 e he
    exact (k4 e this).2
  have hI : ∀ a k, mI (sX (nw (nw S2 10 1) 11 1)) a k = nI 0 := k3
  refine ⟨S1, S2, a1, a2.1, b1, b2.1, ⟨Nat.zero_le _, fun i => by show 0 < 4; omega, fun e => (by cases e), fun r hr => (by cases hr), Nat.zero_le _, Nat.zero_le _, fun b hb => (by cases hb)⟩, ⟨hS, ⟨fun i => i, ⟨⟨fun i hi => ⟨hi, ?_⟩, fun i j _ _ e => e⟩, hI _ _, fun i r e => ?_⟩⟩, ⟨hI _ _, fun i hi => ?_⟩, ⟨hI _ _, fun e => (by cases e)⟩, ⟨hI _ _, fun i b e => ?_⟩⟩, ⟨hS, ⟨hI _ _, fun i r e => ?_⟩, ⟨hI _ _, fun i hi => ?_⟩, ⟨hI _ _, fun e => (by cases e)⟩, ⟨hI _ _, fun i b e => ?_⟩⟩⟩
  · have := (k4 _ (b3 _ (a4 i hi))).2
    rw [show z + (5 + 7 * i) = z + 5 + 7 * i by omega] at this
    exact this
  · have e' : ([] : List Rc)[i]? = some r := e
    simp at e'
  · have hi' : i < 0 := hi
    omega
  · have e' : ([] : List Nat)[i]? = some b := e
    simp at e'
  · have e' : ([] : List Rc)[i]? = some r := e
    simp at e'
  · have hi' : i < 0 := hi
    omega
  · have e' : ([] : List Nat)[i]? = some b := e
    simp at e'
end I1
