set_option maxRecDepth 20000
section M16
variable {S S' S0 S1 S2 : Mem} {z n a b i j k o o' e q x m : Nat} {r : Rc} {s : As} {W W' R : Nat → Int32} {ls : List Rc} {t u : List Nat} {f : Nat → Nat}
theorem pNx_le (t : List Nat) (i n : Nat) : pNx t i n ≤ i + 1 + 2 * n := by
  unfold pNx
  split <;> omega
theorem pRw_lt (hb : ∀ b, b ∈ t → b < 256) (i k : Nat) : pRw t i k < 65536 := by
  unfold pRw
  split
  · exact p2_lt hb _
  · exact Nat.lt_of_lt_of_le (pb_lt hb _) (by omega)
theorem m_taken {P : Nat} {rf : Nat → Nat} (hP : P ≤ 160) (h4 : ∀ i, rf i < 4) (h : zSt z S) (hf : zMf z S P rf) (ht : zMt z S t) (hl : t.length ≤ 120) (hb : ∀ b, b ∈ t → b < 256) :
    match prse P rf t with
    | some r => ∃ S' R, F_X6_taken (z + 214) S = some (nI 1, S') ∧ zR5 z S S' R ∧ zMR (mI S' (z + 216)) (41 * 25) r
    | none => ∃ S' R, F_X6_taken (z + 214) S = some (nI 0, S') ∧ zR5 z S S' R := by
  have y0 := m_two (i := 0) h ht hl (by omega)
  obtain ⟨S1, a1, a2⟩ := r5_empty (x := nI (p2 t 0)) h
  have y1 := m_two (i := 2) a2.1 (zMt_Mw a2.2.1 ht) hl (by omega)
  obtain ⟨S2, b1, b2⟩ := r5_put (k := 10) (x := nI (p2 t 2)) a2 (by omega)
  have ht2 := zMt_Mw b2.2.1 ht
  have y2 := m_byte (i := 4) b2.1 ht2 hl (by omega)
  have y3 := m_two (i := 2) b2.1 ht2 hl (by omega)
  have q0 := p2_lt hb 0
  have q2 := p2_lt hb 2
  have xlt := pb_lt hb 4
  obtain ⟨n, en⟩ : ∃ n, n = pb t 4 := ⟨_, rfl⟩
  rw [← en] at y2 xlt
  have st0 : F_X6_taken (z + 214) S = if nI n < nI 2 then some (nI 0, S2) else if nI 4 < nI n then some (nI 0, S2) else if nI (p2 t 2) ≤ nI 8000 then F_X6_taken_L57 FU (z + 214) (nI n) (nI 5) (nI 0) S2 else some (nI 0, S2) := by
    simp only [F_X6_taken, l_0, l_1, l_2, l_3, l_4, l_5, l_6, l_7, l_8, l_9, l_10, l_11, l_12, l_13, l_14, l_15, l_16, l_17, l_18, l_19, l_20, l_21, l_24, l_25, l_26, l_27, l_31, l_33, l_41, l_65, l_67, l_71, l_84, l_120, l_127, l_128, l_130, l_160, l_162, l_200, l_255, l_256, l_999, l_1000, l_8000, l_9999, l_10000, l_8001, l_m1, t_k214 h, y0, a1, t_k214 a2.1, y1, b1, t_k214 b2.1, y2, y3, bd2_some, bdx_inl, bdx_inr, bdc_inl, bdc_inr, obd_some]
    rfl
  rw [st0]
  by_cases c1 : n < 2
  · rw [prse_no1 (by omega), if_pos (nI_lt c1 (by omega))]
    exact ⟨S2, _, rfl, b2⟩
  rw [if_neg (nI_nlt (by omega) (by omega))]
  by_cases c2 : 4 < n
  · rw [prse_no1 (by omega), if_pos (nI_lt c2 (by omega))]
    exact ⟨S2, _, rfl, b2⟩
  rw [if_neg (nI_nlt (by omega) (by omega))]
  by_cases c3 : p2 t 2 ≤ 8000
  · rw [if_pos (nI_le c3 (by omega))]
    have hA0 : zAr (va_up (fun k => if k = 0 then nI (p2 t 0) else emV k) 10 (nI (p2 t 2))) 0 (fun _ => 0) (fun _ => 0) := ⟨rfl, fun j hj => by omega⟩
    obtain ⟨M1, M2⟩ := m_t57 (z := z) (n := n) ht hl hb (by omega) n FU 0 5 _ _ S2 _ b2 hA0 (by omega) (by show n < 4000; omega) (by omega)
    cases e : pAl t n 0 5 (fun _ => 0) (fun _ => 0) with
    | none =>
      rw [prse_no2 (by rw [← en]; exact e)]
      exact M2 e
    | some w =>
      obtain ⟨i', L, B⟩ := w
      obtain ⟨S3, R3, fu', d1, d2, d3, d4, d5⟩ := M1 i' L B e
      rw [d1]
      obtain ⟨S4, R4, f1, f2, f3, f4⟩ := m_rrow (i := i') (o := 11) (n := n) ht hl (by omega) (by omega) d2
      have p10 := prs_le (show n ≤ 4 by omega)
      obtain ⟨i1, ei1⟩ : ∃ i1, i1 = pNx t i' n := ⟨_, rfl⟩
      have li1 : i1 ≤ 100 := by rw [ei1]; have := pNx_le t i' n; omega
      obtain ⟨S5, R5, g1, g2, g3, g4, g5, g6, g7⟩ := m_rsm (fu := 3997 + 1 + 1) (i := i1) (m := 0) (n := n) ht hl hb f2 (by omega) (by omega) (by omega)
      obtain ⟨i2, ei2⟩ : ∃ i2, i2 = pNx t (i1 + 3) (prs n) := ⟨_, rfl⟩
      have li2 : i2 ≤ 200 := by rw [ei2]; have := pNx_le t (i1 + 3) (prs n); omega
      obtain ⟨S6, R6, h1, h2, h3, h4', h5, h6, h7⟩ := m_rsm (fu := 3997 + 1) (i := i2) (m := 1) (n := n) ht hl hb g2 (by omega) (by omega) (by omega)
      have R30 : ∀ k, (k = 0 ∨ 11 ≤ k) → R3 k = if k = 0 then nI (p2 t 0) else emV k := by
        intro k hk
        rw [d4 k (by omega)]
        have : ¬ k = 10 := by omega
        simp only [va_up, this, ↓reduceIte]
      have R310 : R3 10 = nI (p2 t 2) := by
        rw [d4 10 (by omega)]
        simp only [va_up, ↓reduceIte]
      have up : ∀ k, k < 11 → R6 k = R3 k := fun k hk => by rw [h7 k (by omega) (by omega), g7 k (by omega) (by omega), f4 k (by omega)]
      have dp : ∀ k, k < n → R6 (11 + k) = nI (pRw t i' k) := fun k hk => by rw [h7 _ (by omega) (by omega), g7 _ (by omega) (by omega), f3 k hk]
      have em : ∀ k, 21 ≤ k → k < 41 → emV k = nI 0 := fun k h1 h2 => if_neg (by omega)
      obtain ⟨Kv, eK⟩ : ∃ Kv : Nat → Nat, Kv = fun k => if k < 10 then (if k < prs n then pRw t (i1 + 3) k else 0) else if k - 10 < prs n then pRw t (i2 + 3) (k - 10) else 0 := ⟨_, rfl⟩
      have kv0 : ∀ k, k < 10 → Kv k = if k < prs n then pRw t (i1 + 3) k else 0 := fun k hk => by rw [eK]; exact if_pos hk
      have kv1 : ∀ k, 10 ≤ k → Kv k = if k - 10 < prs n then pRw t (i2 + 3) (k - 10) else 0 := fun k hk => by rw [eK]; exact if_neg (by omega)
      have K0 : ∀ k, k < 10 → R6 (21 + k) = nI (Kv k) := by
        intro k hk
        rw [h7 _ (by omega) (by omega), eK]
        show _ = nI (if k < 10 then (if k < prs n then pRw t (i1 + 3) k else 0) else _)
        rw [if_pos hk]
        by_cases c : k < prs n
        · rw [if_pos c]; exact g6 k c
        · rw [if_neg c, g7 _ (by omega) (by omega), f4 _ (by omega), R30 _ (by omega), if_neg (by omega), em _ (by omega) (by omega)]
      have K1 : ∀ k, k < 10 → R6 (31 + k) = nI (Kv (10 + k)) := by
        intro k hk
        rw [eK]
        show _ = nI (if 10 + k < 10 then _ else if 10 + k - 10 < prs n then pRw t (i2 + 3) (10 + k - 10) else 0)
        rw [if_neg (by omega), show 10 + k - 10 = k by omega]
        by_cases c : k < prs n
        · rw [if_pos c]; exact h6 k c
        · rw [if_neg c, h7 _ (by omega) (by omega), g7 _ (by omega) (by omega), f4 _ (by omega), R30 _ (by omega), if_neg (by omega), em _ (by omega) (by omega)]
      have Klt : ∀ k, Kv k < 65536 := by
        intro k
        rw [eK]
        dsimp only
        split
        · split
          · exact pRw_lt hb _ _
          · omega
        · split
          · exact pRw_lt hb _ _
          · omega
      have G0 : R6 15 = gI (pb t (i1 + 1) / 2) := by rw [h7 15 (by omega) (by omega)]; exact g3
      have G1 : R6 16 = gI (pb t (i1 + 2) / 2) := by rw [h7 16 (by omega) (by omega)]; exact g4
      have H0 : R6 17 = nI (pb t (i1 + 1) % 2) := by rw [h7 17 (by omega) (by omega)]; exact g5
      have eG0 : aG (pRec t n i' L B) 0 = pb t (i1 + 1) / 2 := by rw [ei1]; rfl
      have eG1 : aG (pRec t n i' L B) 1 = pb t (i1 + 2) / 2 := by rw [ei1]; rfl
      have eG2 : aG (pRec t n i' L B) 2 = pb t (i2 + 1) / 2 := by rw [ei2, ei1]; rfl
      have eG3 : aG (pRec t n i' L B) 3 = pb t (i2 + 2) / 2 := by rw [ei2, ei1]; rfl
      have pl : ∀ k, pb t k / 2 < 65536 := fun k => by have := pb_lt hb k; omega
      have inr := m_inr (z := z) (P := P) (p := p2 t 0) (l := L 0) (B := B 0) (rf := rf) (Kv := Kv) (Gv := aG (pRec t n i' L B)) (Dv := pRw t i') (n := n) h2 hf h4 hP (by omega) (by rw [up 0 (by omega), R30 0 (by omega), if_pos rfl]) (by rw [up 2 (by omega)]; exact (d3.2 0 (by omega)).2.1) (by rw [up 6 (by omega)]; exact (d3.2 0 (by omega)).1) q0 (d3.2 0 (by omega)).2.2.1 (d3.2 0 (by omega)).2.2.2.1 (d3.2 0 (by omega)).2.2.2.2 (fun k hk => ⟨dp k hk, pRw_lt hb _ _⟩) (fun m hm k hk => by
        rcases (show m = 0 ∨ m = 1 by omega) with q | q <;> subst q
        · exact ⟨by rw [show 21 + 10 * 0 + k = 21 + k by omega, show 10 * 0 + k = k by omega]; exact K0 k hk, Klt _⟩
        · exact ⟨by rw [show 21 + 10 * 1 + k = 31 + k by omega, show 10 * 1 + k = 10 + k by omega]; exact K1 k hk, Klt _⟩) (fun m hm j hj => by
        rcases (show m = 0 ∨ m = 1 by omega) with q | q <;> subst q <;> rcases (show j = 0 ∨ j = 1 by omega) with q | q <;> subst q
        · exact ⟨by rw [show aG (pRec t n i' L B) (2 * 0 + 0) = _ from eG0]; exact G0, by rw [show aG (pRec t n i' L B) (2 * 0 + 0) = _ from eG0]; exact pl _⟩
        · exact ⟨by rw [show aG (pRec t n i' L B) (2 * 0 + 1) = _ from eG1]; exact G1, by rw [show aG (pRec t n i' L B) (2 * 0 + 1) = _ from eG1]; exact pl _⟩
        · exact ⟨by rw [show aG (pRec t n i' L B) (2 * 1 + 0) = _ from eG2]; exact h3, by rw [show aG (pRec t n i' L B) (2 * 1 + 0) = _ from eG2]; exact pl _⟩
        · exact ⟨by rw [show aG (pRec t n i' L B) (2 * 1 + 1) = _ from eG3]; exact h4', by rw [show aG (pRec t n i' L B) (2 * 1 + 1) = _ from eG3]; exact pl _⟩)
      obtain ⟨c, ec⟩ : ∃ c, c = (decide ((1 ≤ p2 t 0 ∧ p2 t 0 + L 0 ≤ P + 1) ∧ B 0 = rn rf (p2 t 0) (L 0)) && allF (pRw t i') 9999 n 0 && (decide (aG (pRec t n i' L B) 0 ≤ n) && decide (aG (pRec t n i' L B) 1 ≤ n)) && allF Kv 999 10 0 && (decide (aG (pRec t n i' L B) 2 ≤ n) && decide (aG (pRec t n i' L B) 3 ≤ n)) && allF Kv 999 10 10) := ⟨_, rfl⟩
      rw [← ec] at inr
      have st : F_X6_taken_L57 (fu' + 1) (z + 214) (nI n) (nI i') (nI n) S3 = some (bI c, S6) := by
        have cn : nI n ≤ nI n := nI_le (Nat.le_refl _) (by omega)
        have f1' : F_X6_readRow (z + 214) (nI i') 11 (nI n) S3 = some (nI i1, S4) := by rw [ei1]; exact f1
        rw [F_X6_taken_L57, if_pos cn, t_k214 d2.1, obd_some, f1', bd2_some]
        show F_X6_taken_L174 (3997 + 1 + 1 + 1) (z + 214) (nI n) (nI i1) (nI 0) S4 = _
        rw [g1, ← ei2]
        refine Eq.trans h1 ?_
        have cc : (2 : Int32) ≤ nI (1 + 1) := by decide
        rw [F_X6_taken_L174, if_pos cc, t_k214 h2.1, obd_some, inr, bd2_some]
        cases c
        · exact if_pos (Or.inl rfl)
        · exact if_pos (Or.inr rfl)
      rw [st]
      have key : c = true ↔ ((1 ≤ p2 t 0 ∧ p2 t 0 + L 0 ≤ P + 1) ∧ B 0 = rn rf (p2 t 0) (L 0)) ∧ pGd t n i' := by
        rw [ec]
        simp only [Bool.and_eq_true, decide_eq_true_eq, allF_t]
        rw [eG0, eG1, eG2, eG3]
        unfold pGd
        rw [← ei1, ← ei2]
        constructor
        · rintro ⟨⟨⟨⟨⟨k1, k2⟩, k3⟩, k4⟩, k5⟩, k6⟩
          refine ⟨k1, fun k hk => k2 k (by omega) (by omega), ⟨k3, fun k hk => ?_⟩, k5, fun k hk => ?_⟩
          · have := k4 k (by omega) (by omega)
            rw [kv0 k (by omega), if_pos hk] at this
            exact this
          · have := k6 (10 + k) (by omega) (by omega)
            rw [kv1 (10 + k) (by omega), show 10 + k - 10 = k by omega, if_pos hk] at this
            exact this
        · rintro ⟨k1, k2, ⟨k3, k4⟩, k5, k6⟩
          refine ⟨⟨⟨⟨⟨k1, fun k _ hk => k2 k (by omega)⟩, k3⟩, fun k _ hk => ?_⟩, k5⟩, fun k hk1 hk => ?_⟩
          · rw [kv0 k (by omega)]
            by_cases q : k < prs n
            · rw [if_pos q]; exact k4 k q
            · rw [if_neg q]; omega
          · rw [kv1 k (by omega)]
            by_cases q : k - 10 < prs n
            · rw [if_pos q]; exact k6 _ q
            · rw [if_neg q]; omega
      cases hc : c with
      | true =>
        obtain ⟨k1, k2⟩ := key.mp hc
        rw [prse_some c3 (by omega) (by omega) (by rw [← en]; exact e) ⟨k1.1.1, k1.1.2, k1.2⟩ (by rw [← en]; exact k2), ← en]
        refine ⟨S6, R6, rfl, h2, ?_⟩
        have hk := h2.2.2.2.1
        refine ⟨⟨?_, ?_, ?_⟩, fun j hj => ⟨?_, ?_, ?_⟩, ⟨?_, ?_, ?_, ?_⟩, ⟨?_, ?_⟩, fun j hj => ⟨?_, ?_⟩⟩
        · exact (hk 0 (by omega)).trans (by rw [up 0 (by omega), R30 0 (by omega), if_pos rfl]; rfl)
        · exact (hk 10 (by omega)).trans (by rw [up 10 (by omega), R310]; rfl)
        · exact (hk 1 (by omega)).trans (by rw [up 1 (by omega)]; exact d3.1)
        · have hj' : j < n := hj
          exact (hk _ (by omega)).trans (by rw [up _ (by omega)]; exact (d3.2 j hj').1)
        · have hj' : j < n := hj
          exact (hk _ (by omega)).trans (by rw [up _ (by omega)]; exact (d3.2 j hj').2.1)
        · have hj' : j < n := hj
          exact (hk _ (by omega)).trans (dp j hj')
        · exact (hk 15 (by omega)).trans (by rw [eG0]; exact G0)
        · exact (hk 16 (by omega)).trans (by rw [eG1]; exact G1)
        · exact (hk 18 (by omega)).trans (by rw [eG2]; exact h3)
        · exact (hk 19 (by omega)).trans (by rw [eG3]; exact h4')
        · exact (hk 17 (by omega)).trans (by rw [H0, ei1]; rfl)
        · refine (hk 20 (by omega)).trans (h5.trans ?_)
          rw [ei2, ei1]; rfl
        · have hj' : j < prs n := hj
          refine (hk _ (by omega)).trans ?_
          rw [K0 j (by omega), pK0 (by omega), eK]
          show nI (if j < 10 then (if j < prs n then pRw t (i1 + 3) j else 0) else _) = _
          rw [if_pos (by omega), if_pos hj', ei1]
        · have hj' : j < prs n := hj
          refine (hk _ (by omega)).trans ?_
          rw [K1 j (by omega), pK1, eK]
          show nI (if 10 + j < 10 then _ else if 10 + j - 10 < prs n then pRw t (i2 + 3) (10 + j - 10) else 0) = _
          rw [if_neg (by omega), show 10 + j - 10 = j by omega, if_pos hj', ei2, ei1]
      | false =>
        have nk : ¬ (((1 ≤ p2 t 0 ∧ p2 t 0 + L 0 ≤ P + 1) ∧ B 0 = rn rf (p2 t 0) (L 0)) ∧ pGd t n i') := fun w => by
          rw [key.mpr w] at hc; cases hc
        by_cases k1 : (1 ≤ p2 t 0 ∧ p2 t 0 + L 0 ≤ P + 1) ∧ B 0 = rn rf (p2 t 0) (L 0)
        · rw [prse_no4 (by rw [← en]; exact e) (by rw [← en]; exact fun w => nk ⟨k1, w⟩)]
          exact ⟨S6, R6, rfl, h2⟩
        · rw [prse_no3 (by rw [← en]; exact e) (fun w => k1 ⟨⟨w.1, w.2.1⟩, w.2.2⟩)]
          exact ⟨S6, R6, rfl, h2⟩
  · rw [prse_no1 (by omega), if_neg (nI_ge (by omega) (by omega))]
    exact ⟨S2, _, rfl, b2⟩
end M16
