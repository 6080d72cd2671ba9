set_option maxRecDepth 20000
section M21
variable {S S' S0 S1 S2 T : Mem} {z n a b i j k o o' e q m v qx qy : Nat} {r x y : Rc} {s : As} {W W' R O : Nat → Int32} {ls : List Rc} {L B w : Nat → Nat} {y1 y2 : Int32} {rf : Nat → Nat} {p : Nat}
theorem m_gather {d lm bm : Nat} (h : zJ z S0 S R O) (hq : q < 24) (hr : zMR (mI S0 (z + 216)) (41 * q) r) (n1 : 1 ≤ aN r) (hv : v < 2) (r2 : R 2 = nI lm) (r6 : R 6 = nI bm) (hlm : lm = aL r 0 + d) (hd8 : d ≤ 8) (hb : bm % 4 ^ d = aB y 0 % 4 ^ d) : ∃ S', F_X6_gather (z + 214) (nI q) (nI v) S = F_X6_gather_L45 FU (z + 214) (nI q) (nI v) (nI d) (nI (aB y 0 % 4 ^ d)) (nI 1) S' ∧ zJ z S0 S' R (va_up O (4 * v) (nI 0)) := by
  have hS := zJ_St h
  have g2 := zJ_get5 h (k := 2) (by omega)
  have g6 := zJ_get5 h (k := 6) (by omega)
  rw [r2] at g2
  rw [r6] at g6
  have g1 := zJ_get h (q := q) (k := 2) (by omega) (by omega) (by omega)
  have e2 := (hr.2.1 0 n1).2.1
  rw [show 2 + 0 = 2 from rfl] at e2
  rw [e2] at g1
  obtain ⟨S1, p1, pp2⟩ := zJ_of (k := 4 * v) (y1 := nI 0) h (by omega)
  refine ⟨S1, ?_, pp2⟩
  have e3 : nI lm - nI (aL r 0) = nI d := by rw [nI_sub (by omega), hlm, show aL r 0 + d - aL r 0 = d by omega]
  have e4 : nI bm &&& ((nI 1 <<< (nI (2 * d) &&& nI 31)) - nI 1) = nI (aB y 0 % 4 ^ d) := by rw [b_low (by omega), b_andLow, hb]
  simp only [F_X6_gather, l_0, l_1, l_2, l_3, l_4, l_5, l_6, l_7, l_8, l_9, l_10, l_11, l_12, l_13, l_14, l_15, l_16, l_17, l_18, l_19, l_20, l_21, l_24, l_25, l_26, l_27, l_31, l_33, l_41, l_65, l_67, l_71, l_84, l_120, l_127, l_128, l_130, l_160, l_162, l_200, l_255, l_256, l_999, l_1000, l_8000, l_9999, l_10000, l_8001, l_m1, t_k214 hS, g2, g1, g6, t_r214_10 hS, nI_mul, p1, e3, e4, bd2_some, bdx_inl, bdx_inr, bdc_inl, bdc_inr, obd_some]
theorem m_J88 (hs : xOk s) (h0 : zMo z s S0) (hi : i + 1 < (xL s).length) (ex : x = xAt s i) (ey : y = xAt s (i + 1)) (c3 : aP y = aP x) (hq0 : q = if aL y 0 ≤ aL x 0 then i else i + 1) (ht0 : mI S0 (z + 214) 0 = nI 0) :
    (jJoin x y = none → ∃ S', F_X6_join_J88 (z + 214) (nI i) (nI i) (nI (i + 1)) (nI q) S0 = some S' ∧ zMo z s S' ∧ zFr (z + 214) (z + 220) S0 S' ∧ mI S' (z + 214) 0 = nI 3) ∧
    (∀ r, jJoin x y = some r → ∃ S', F_X6_join_J88 (z + 214) (nI i) (nI i) (nI (i + 1)) (nI q) S0 = some S' ∧ zMo z (wList s (((xL s).eraseIdx (i + 1)).set i r)) S' ∧ zFr (z + 214) (z + 220) S0 S' ∧ mI S' (z + 214) 0 = nI 0) := by
  have hl24 := hs.2.2.2.2.1
  obtain ⟨gx, okx⟩ := xAt_ok hs (show i < (xL s).length by omega)
  obtain ⟨gy, oky⟩ := xAt_ok hs hi
  rw [← ex] at gx okx
  rw [← ey] at gy oky
  have hS0 := h0.1
  have rx := h0.2.1.2 i _ gx
  have ry := h0.2.1.2 (i + 1) _ gy
  have nx2 := okx.1.1
  have nx4 := okx.1.2
  have ny2 := oky.1.1
  have ny4 := oky.1.2
  obtain ⟨j1, j2⟩ := j_ref hs.2.1 okx.2.2.1 oky.2.2.1 c3
  obtain ⟨j3, j4⟩ := j_ref2 hs.2.1 okx.2.2.1 oky.2.2.1 c3
  have lx := okx.2.1.1 0 (by omega)
  have ly := oky.2.1.1 0 (by omega)
  have bx := okx.2.2.1.2.2
  have by' := oky.2.2.1.2.2
  rw [c3] at by'
  obtain ⟨lm, elm⟩ : ∃ l, l = max (aL x 0) (aL y 0) := ⟨_, rfl⟩
  rw [← elm] at j1 j2
  have lm8 : lm ≤ 8 := by omega
  have lm1 : 1 ≤ lm := by omega
  obtain ⟨bm, ebm⟩ : ∃ b, b = rn (xF s) (aP x) lm := ⟨_, rfl⟩
  rw [← ebm] at j2
  have bm65 : bm < 65536 := by
    rw [ebm]
    have := rn_lt hs.2.1 (aP x) lm
    have := p4_8 lm8
    omega
  -- the row with the longer reference
  have hq24 : q < 24 := by rw [hq0]; split <;> omega
  have Q2 : mI S0 (z + 216) (41 * q + 2) = nI lm ∧ mI S0 (z + 216) (41 * q + 6) = nI bm := by
    by_cases c : aL y 0 ≤ aL x 0
    · rw [if_pos c] at hq0
      have e : lm = aL x 0 := by omega
      rw [hq0, e, show bm = aB x 0 by rw [ebm, e, bx]]
      exact ⟨(rx.2.1 0 (by omega)).2.1, (rx.2.1 0 (by omega)).1⟩
    · rw [if_neg c] at hq0
      have e : lm = aL y 0 := by omega
      rw [hq0, e, show bm = aB y 0 by rw [ebm, e, by']]
      exact ⟨(ry.2.1 0 (by omega)).2.1, (ry.2.1 0 (by omega)).1⟩
  have g0 := m_get (i := i) (k := 0) hS0 (by omega)
  rw [Nat.add_zero (41 * i), rx.1.1] at g0
  obtain ⟨S1, a1, a2⟩ := r5_empty (x := nI (aP x)) hS0
  have J1 : zJ z S0 S1 (fun k => if k = 0 then nI (aP x) else emV k) (mI S0 (z + 219)) := ⟨S0, zFr_refl, a2, fun k hk => by rw [a2.2.1.1.2 _ (by omega)]⟩
  have hS1 := zJ_St J1
  have q2 := zJ_get J1 (q := q) (k := 2) (by omega) (by omega) (by omega)
  have q6 := zJ_get J1 (q := q) (k := 6) (by omega) (by omega) (by omega)
  rw [Q2.1] at q2
  rw [Q2.2] at q6
  obtain ⟨S2, b1, J2⟩ := zJ_add (y1 := nI lm) (y2 := nI bm) (n := 0) J1 rfl (by omega)
  have hS2 := zJ_St J2
  obtain ⟨R2, eR2⟩ : ∃ R, R = (fun k => if k = 1 then nI (0 + 1) else if k = 6 + 0 then nI bm else if k = 2 + 0 then nI lm else if k = 0 then nI (aP x) else emV k) := ⟨_, rfl⟩
  rw [← eR2] at J2
  have R2v : R2 0 = nI (aP x) ∧ ∀ k, 10 ≤ k → k < 41 → R2 k = emV k := by
    rw [eR2]
    refine ⟨rfl, fun k h1 h2 => ?_⟩
    dsimp only
    rw [if_neg (by omega), if_neg (by omega), if_neg (by omega), if_neg (by omega)]
  have A2 : zAr R2 1 (jL x y) (jB x y) := by
    refine ⟨by rw [eR2]; rfl, fun j hj => ?_⟩
    have : j = 0 := by omega
    subst this
    rw [j1, j2, eR2]
    exact ⟨rfl, rfl, lm1, lm8, bm65⟩
  have dX : lm = aL x 0 + (aL y 0 - aL x 0) := by omega
  have dY : lm = aL y 0 + (aL x 0 - aL y 0) := by omega
  have rX : bm % 4 ^ (aL y 0 - aL x 0) = aB y 0 % 4 ^ (aL y 0 - aL x 0) := by
    by_cases c : aL y 0 ≤ aL x 0
    · rw [show aL y 0 - aL x 0 = 0 by omega, Nat.pow_zero, Nat.mod_one, Nat.mod_one]
    · rw [show bm = aB y 0 by rw [ebm, show lm = aL y 0 by omega, by']]
  have rY : bm % 4 ^ (aL x 0 - aL y 0) = aB x 0 % 4 ^ (aL x 0 - aL y 0) := by
    by_cases c : aL x 0 ≤ aL y 0
    · rw [show aL x 0 - aL y 0 = 0 by omega, Nat.pow_zero, Nat.mod_one, Nat.mod_one]
    · rw [show bm = aB x 0 by rw [ebm, show lm = aL x 0 by omega, bx]]
  have r22 : R2 2 = nI lm := by rw [eR2]; rfl
  have r26 : R2 6 = nI bm := by rw [eR2]; rfl
  obtain ⟨S3, c1, J3⟩ := m_gather (q := i) (v := 0) (y := y) J2 (by omega) rx (by omega) (by omega) r22 r26 dX (by omega) rX
  have st : ∀ X, (bd2 (F_X6_gather (z + 214) (nI i) (nI 0) S2) fun t72 S73 => if t72 = nI 0 then F_X6_join_J148 (z + 214) (nI i) (nI i) (nI (i + 1)) S73 else (pk 6 S73 (z + 214)).bind fun _ => bd2 (F_X6_gather (z + 214) (nI (i + 1)) (nI 1) S73) fun t76 S77 => if t76 = nI 0 then F_X6_join_J148 (z + 214) (nI i) (nI i) (nI (i + 1)) S77 else F_X6_join_J149 (z + 214) (nI i) (nI i) (nI (i + 1)) (nI 1) S77) = X → F_X6_join_J88 (z + 214) (nI i) (nI i) (nI (i + 1)) (nI q) S0 = X := by
    intro X hX
    rw [← hX]
    simp only [F_X6_join_J88, l_0, l_1, l_2, l_3, l_4, l_5, l_6, l_7, l_8, l_9, l_10, l_11, l_12, l_13, l_14, l_15, l_16, l_17, l_18, l_19, l_20, l_21, l_24, l_25, l_26, l_27, l_31, l_33, l_41, l_65, l_67, l_71, l_84, l_120, l_127, l_128, l_130, l_160, l_162, l_200, l_255, l_256, l_999, l_1000, l_8000, l_9999, l_10000, l_8001, l_m1, t_k214 hS0, g0, a1, t_k214 hS1, q2, q6, b1, t_k214 hS2, bd2_some, bdx_inl, bdx_inr, bdc_inl, bdc_inr, obd_some]
    rfl
  obtain ⟨GX1, GX2⟩ := m_gax (z := z) (y := y) (show i < 24 by omega) rx nx4 okx.2.1 rfl (by omega) rfl (aN x - 1) FU 1 S3 R2 _ J3 A2 (fun b hb => by
    have : b = 0 := by omega
    subst this
    rfl) (by omega) (by show aN x - 1 < 4000; omega)
  have bad : ∀ {T : Mem} {R O : Nat → Int32}, zJ z S0 T R O → ∃ S', F_X6_join_J148 (z + 214) (nI i) (nI i) (nI (i + 1)) T = some S' ∧ zMo z s S' ∧ zFr (z + 214) (z + 220) S0 S' ∧ mI S' (z + 214) 0 = nI 3 := by
    intro T R O hT
    obtain ⟨m1', m2', m3'⟩ := zJ_Mo hs h0 hT
    refine ⟨sI T (z + 214) 0 (nI 3), ?_, zMo_th m1', zFr_trans m2' zFr_th, by rw [mI_sI, if_pos ⟨rfl, rfl⟩]⟩
    simp only [F_X6_join_J148, F_X6_join_J149, F_X6_join_J162, l_0, l_1, l_2, l_3, l_4, l_5, l_6, l_7, l_8, l_9, l_10, l_11, l_12, l_13, l_14, l_15, l_16, l_17, l_18, l_19, l_20, l_21, l_24, l_25, l_26, l_27, l_31, l_33, l_41, l_65, l_67, l_71, l_84, l_120, l_127, l_128, l_130, l_160, l_162, l_200, l_255, l_256, l_999, l_1000, l_8000, l_9999, l_10000, l_8001, l_m1, t_p214 m1'.1, bd2_some, bdx_inl, bdx_inr, bdc_inl, bdc_inr, obd_some, ↓reduceIte]
  have x8 : (∃ b, 1 ≤ b ∧ b < aN x ∧ 8 < jL x y b) ↔ ∃ b, b < aN x ∧ 8 < jL x y b := by
    constructor
    · rintro ⟨b, h1, h2, h3⟩; exact ⟨b, h2, h3⟩
    · rintro ⟨b, h2, h3⟩
      refine ⟨b, ?_, h2, h3⟩
      rcases Nat.eq_zero_or_pos b with e | e
      · subst e; omega
      · exact e
  have y8 : (∃ b, 1 ≤ b ∧ b < aN y ∧ 8 < jL y x b) ↔ ∃ b, b < aN y ∧ 8 < jL y x b := by
    constructor
    · rintro ⟨b, h1, h2, h3⟩; exact ⟨b, h2, h3⟩
    · rintro ⟨b, h2, h3⟩
      refine ⟨b, ?_, h2, h3⟩
      rcases Nat.eq_zero_or_pos b with e | e
      · subst e; rw [j3] at h3; omega
      · exact e
  by_cases cx : ∃ b, b < aN x ∧ 8 < jL x y b
  · have no : jJoin x y = none := if_pos (Or.inl cx)
    obtain ⟨S4, R4, O4, d1, d2⟩ := GX2 (x8.mpr cx)
    obtain ⟨S5, e1, e2⟩ := bad d2
    refine ⟨fun _ => ⟨S5, st _ ?_, e2⟩, fun r er => by rw [no] at er; cases er⟩
    rw [c1, d1, bd2_some, if_pos rfl]
    exact e1
  obtain ⟨S4, R4, O4, d1, J4, A4, o4, r4⟩ := GX1 (fun b hb => Nat.not_lt.mp (fun w => cx ⟨b, hb, w⟩))
  have hS4 := zJ_St J4
  have r42 : R4 2 = nI lm := by rw [← j1]; exact (A4.2 0 (by omega)).2.1
  have r46 : R4 6 = nI bm := by rw [← j2]; exact (A4.2 0 (by omega)).1
  obtain ⟨S5, e1, J5⟩ := m_gather (q := i + 1) (v := 1) (y := x) J4 (by omega) ry (by omega) (by omega) r42 r46 dY (by omega) rY
  obtain ⟨GY1, GY2⟩ := m_gay (z := z) (y := x) (show i + 1 < 24 by omega) ry ny4 oky.2.1 rfl (by omega) rfl (aN y - 1) FU 1 (aN x) (jL x y) (jB x y) (fun _ => 0) S5 R4 _ J5 A4 nx4 (fun b hb => by
    have : b = 0 := by omega
    subst this
    rfl) (by omega) (by show aN y - 1 < 4000; omega)
  have jA : jAdd (jL y x) (jB y x) (aN y) 0 (aN x) (jL x y) (jB x y) (fun _ => 0) = jAdd (jL y x) (jB y x) (aN y - 1) 1 (aN x) (jL x y) (jB x y) (fun _ => 0) := by
    obtain ⟨m, hm⟩ : ∃ m, aN y = m + 1 := ⟨aN y - 1, by omega⟩
    have f0 : fnd (aN x) (jL x y) (jB x y) (jL y x 0) (jB y x 0) = some 0 := by
      obtain ⟨m', hm'⟩ : ∃ m, aN x = m + 1 := ⟨aN x - 1, by omega⟩
      unfold fnd
      rw [hm', fndA, if_pos ⟨j3.symm, j4.symm⟩]
    have u0 : va_up (fun _ : Nat => 0) 0 0 = fun _ => 0 := by
      funext i
      by_cases e : i = 0
      · simp only [va_up, e, ↓reduceIte]
      · simp only [va_up, e, ↓reduceIte]
    rw [hm, jAdd_f f0, u0]
    rfl
  have st2 : ∀ X, (bd2 (F_X6_gather_L45 FU (z + 214) (nI (i + 1)) (nI 1) (nI (aL x 0 - aL y 0)) (nI (aB x 0 % 4 ^ (aL x 0 - aL y 0))) (nI 1) S5) fun t76 S77 => if t76 = nI 0 then F_X6_join_J148 (z + 214) (nI i) (nI i) (nI (i + 1)) S77 else F_X6_join_J149 (z + 214) (nI i) (nI i) (nI (i + 1)) (nI 1) S77) = X → F_X6_join_J88 (z + 214) (nI i) (nI i) (nI (i + 1)) (nI q) S0 = X := by
    intro X hX
    refine st X ?_
    rw [c1, d1, bd2_some, if_neg ne10, t_k214 hS4, obd_some, e1]
    exact hX
  by_cases cy : ∃ b, b < aN y ∧ 8 < jL y x b
  · have no : jJoin x y = none := if_pos (Or.inr cy)
    obtain ⟨S6, R6, O6, f1, f2⟩ := GY2 (Or.inl (y8.mpr cy))
    obtain ⟨S7, w1, w2⟩ := bad f2
    refine ⟨fun _ => ⟨S7, st2 _ ?_, w2⟩, fun r er => by rw [no] at er; cases er⟩
    rw [f1, bd2_some, if_pos rfl]
    exact w1
  have hjj : jJoin x y = (jAdd (jL y x) (jB y x) (aN y - 1) 1 (aN x) (jL x y) (jB x y) (fun _ => 0)).map fun t => jRec x y t.1 t.2.1 t.2.2.1 t.2.2.2 := by
    rw [← jA]
    exact if_neg (by
      rintro (w | w)
      · exact cx w
      · exact cy w)
  cases et : jAdd (jL y x) (jB y x) (aN y - 1) 1 (aN x) (jL x y) (jB x y) (fun _ => 0) with
  | none =>
    rw [et] at hjj
    have no : jJoin x y = none := hjj
    obtain ⟨S6, R6, O6, f1, f2⟩ := GY2 (Or.inr et)
    obtain ⟨S7, w1, w2⟩ := bad f2
    refine ⟨fun _ => ⟨S7, st2 _ ?_, w2⟩, fun r er => by rw [no] at er; cases er⟩
    rw [f1, bd2_some, if_pos rfl]
    exact w1
  | some t =>
    obtain ⟨n, L, B, w⟩ := t
    rw [et] at hjj
    have yes : jJoin x y = some (jRec x y n L B w) := hjj
    refine ⟨fun no => (by rw [yes] at no; cases no), fun r er => ?_⟩
    rw [yes] at er
    cases er
    obtain ⟨S6, R6, O6, f1, J6, A6, o6, o6b, r6⟩ := GY1 _ (fun b hb => Nat.not_lt.mp (fun w => cy ⟨b, hb, w⟩)) et
    have A6' : zAr R6 n L B := A6
    have o6' : ∀ b, b < aN y → O6 (4 + b) = nI (w b) := o6
    have hI := jAdd_inv _ 0 _ _ _ (fun _ => 0) (n, L, B, w) (jInv_0 nx4 okx.2.1 (y := y) (fun _ => 0)) (by rw [jA]; exact et)
    rw [Nat.zero_add] at hI
    have hI' : jInv (aN x) (jL x y) (jB x y) (jL y x) (jB y x) (aN y) n L B w := hI
    obtain ⟨w0, -⟩ := jInv_w hs.2.1 okx oky c3 hI'
    have n4 : n ≤ 4 := hI'.1.2
    have nn : aN x ≤ n := hI'.1.1
    have okr := j_ok hs.2.1 okx oky c3 (fun b hb => Nat.not_lt.mp (fun w => cx ⟨b, hb, w⟩)) (fun b hb => Nat.not_lt.mp (fun w => cy ⟨b, hb, w⟩)) hI'
    have hS6 := zJ_St J6
    obtain ⟨M6a, M6b, M6c⟩ := zJ_Mo hs h0 J6
    have same6 : sI S6 (z + 214) 0 (nI 0) = S6 := sI_same (by rw [M6c]; exact ht0)
    have JR : zJr z S0 O6 i (i + 1) x y w := ⟨⟨by omega, by omega⟩, ⟨rx, ry⟩, ⟨nx4, ny4⟩, fun b hb => by
      rw [o6b b (by omega)]
      have e : ¬ b = 4 * 1 := by omega
      simp only [va_up, e, ↓reduceIte]
      exact o4 b hb, fun b hb => ⟨o6' b hb, by have := (hI'.2.2.1 b hb).1; omega⟩, ⟨okx.2.2.2, oky.2.2.2⟩, w0, ny2⟩
    have gqx := zJ_get J6 (q := i) (k := 10) (by omega) (by omega) (by omega)
    have gqy := zJ_get J6 (q := i + 1) (k := 10) (by omega) (by omega) (by omega)
    rw [rx.1.2.1] at gqx
    rw [ry.1.2.1] at gqy
    have lqx : aQ x ≤ 8000 := okx.2.2.2.1
    have lqy : aQ y ≤ 8000 := oky.2.2.2.1
    obtain ⟨S7, k1, J7⟩ := zJ_put (k := 10) (y1 := nI (max (aQ x) (aQ y))) J6 (by omega)
    have R71 : (va_up R6 10 (nI (max (aQ x) (aQ y)))) 1 = nI n := by
      have e : ¬ 1 = 10 := by omega
      simp only [va_up, e, ↓reduceIte]
      exact A6'.1
    obtain ⟨S8, R8, fu', l1, J8, l3, l4⟩ := m_jd_L (v1 := nI i) JR nx2 n4 n FU 0 S7 _ J7 R71 (by omega) (by show n < 4000; omega)
    have hS8 := zJ_St J8
    have R81 : R8 1 = nI n := by rw [l4 1 (by omega)]; exact R71
    obtain ⟨S9, R9, s1, J9, s3, s4, s5, s6, s7⟩ := m_jsm (m := 0) J8 JR (by omega) n4 R81
    have hS9 := zJ_St J9
    have R91 : R9 1 = nI n := by rw [s7 1 (by omega) (by omega)]; exact R81
    obtain ⟨S10, R10, t1, J10, t3, t4, t5, t6, t7⟩ := m_jsm (m := 1) J9 JR (by omega) n4 R91
    have hS10 := zJ_St J10
    have p10 := prs_le n4
    obtain ⟨Ma, Mb, Mc⟩ := zJ_Mo hs h0 J10
    -- the joined row
    have low : ∀ k, k < 10 → R10 k = R6 k := fun k hk => by
      rw [t7 k (by omega) (by omega), s7 k (by omega) (by omega), l4 k (by omega)]
      have e : ¬ k = 10 := by omega
      simp only [va_up, e, ↓reduceIte]
    have hr10 : zMR (mI S10 (z + 216)) (41 * 25) (jRec x y n L B w) := by
      obtain ⟨T, -, hR, -⟩ := J10
      have hk := hR.2.2.2.1
      refine ⟨⟨?_, ?_, ?_⟩, fun j hj => ⟨?_, ?_, ?_⟩, ⟨?_, ?_, ?_, ?_⟩, ⟨?_, ?_⟩, fun j hj => ⟨?_, ?_⟩⟩
      · exact (hk 0 (by omega)).trans (by rw [low 0 (by omega), r6 0 (by omega), r4 0 (by omega)]; exact R2v.1)
      · refine (hk 10 (by omega)).trans ?_
        rw [t7 10 (by omega) (by omega), s7 10 (by omega) (by omega), l4 10 (by omega)]
        simp only [va_up, ↓reduceIte]
        rfl
      · exact (hk 1 (by omega)).trans (by rw [low 1 (by omega)]; exact A6'.1)
      · have hj' : j < n := hj
        exact (hk _ (by omega)).trans (by rw [low _ (by omega)]; exact (A6'.2 j hj').1)
      · have hj' : j < n := hj
        exact (hk _ (by omega)).trans (by rw [low _ (by omega)]; exact (A6'.2 j hj').2.1)
      · have hj' : j < n := hj
        exact (hk _ (by omega)).trans (by rw [t7 _ (by omega) (by omega), s7 _ (by omega) (by omega)]; exact l3 j (by omega) hj')
      · exact (hk 15 (by omega)).trans (by rw [t7 15 (by omega) (by omega)]; exact s3)
      · exact (hk 16 (by omega)).trans (by rw [t7 16 (by omega) (by omega)]; exact s4)
      · exact (hk 18 (by omega)).trans t3
      · exact (hk 19 (by omega)).trans t4
      · exact (hk 17 (by omega)).trans (by rw [t7 17 (by omega) (by omega)]; exact s5)
      · exact (hk 20 (by omega)).trans t5
      · have hj' : j < prs n := hj
        refine (hk (21 + j) (by omega)).trans ?_
        rw [t7 (21 + j) (by omega) (by omega)]
        have := s6 j hj'
        rw [show 21 + 10 * 0 + j = 21 + j by omega, show 10 * 0 + j = j by omega] at this
        exact this
      · have hj' : j < prs n := hj
        refine (hk (31 + j) (by omega)).trans ?_
        have := t6 j hj'
        rw [show 21 + 10 * 1 + j = 31 + j by omega, show 10 * 1 + j = 10 + j by omega] at this
        exact this
    obtain ⟨S11, u1, u2, u3, u4⟩ := m_del hs Ma hi
    have hS11 := zMw_St u2 hS10
    obtain ⟨S12, v1, v2, v3, v4⟩ := m_copy' (a := 25) (b := i) hS11 (by omega) (by omega) (by omega)
    have hmem : ∀ t, t ∈ (xL s).eraseIdx (i + 1) → aN t ≤ 4 := fun t ht => n4_of hs t (List.mem_of_mem_eraseIdx ht)
    have hle := List.length_eraseIdx_of_lt hi
    refine ⟨S12, st2 _ ?_, zMo_w hs Ma (zMw_trans u2 v2) (zMl_set hmem (by omega) u3 v3 (zMR_of okr.1.2 (fun k hk => by rw [v4 i k hk, if_pos rfl, u4 25 k (by omega) hk]) hr10) (fun q k hk hq => by rw [v4 q k hk, if_neg hq])) (fun k hk => by rw [v4 24 k hk, if_neg (by omega), u4 24 k (Nat.le_refl _) hk]), zFr_trans Mb (zFr_mono (zMw_trans u2 v2).1 (by omega) (by omega)), ?_⟩
    · rw [f1, bd2_some, if_neg ne10]
      have s220 : F_X6_join_J149 (z + 214) (nI i) (nI i) (nI (i + 1)) (nI 1) S6 = F_X6_join_L220 FU (z + 214) (nI i) (nI i) (nI (i + 1)) (nI 0) S7 := by
        by_cases cq : aQ x ≤ aQ y
        · have cq' : nI (aQ x) ≤ nI (aQ y) := nI_le cq (by omega)
          rw [Nat.max_eq_right cq] at k1
          simp only [F_X6_join_J149, F_X6_join_J162, F_X6_join_J214, l_0, l_1, l_2, l_3, l_4, l_5, l_6, l_7, l_8, l_9, l_10, l_11, l_12, l_13, l_14, l_15, l_16, l_17, l_18, l_19, l_20, l_21, l_24, l_25, l_26, l_27, l_31, l_33, l_41, l_65, l_67, l_71, l_84, l_120, l_127, l_128, l_130, l_160, l_162, l_200, l_255, l_256, l_999, l_1000, l_8000, l_9999, l_10000, l_8001, l_m1, ne10, t_p214 hS6, same6, t_k214 hS6, gqx, gqy, cq', k1, bd2_some, bdx_inl, bdx_inr, bdc_inl, bdc_inr, obd_some, ↓reduceIte]
        · have cq' : ¬ nI (aQ x) ≤ nI (aQ y) := nI_ge (by omega) (by omega)
          rw [Nat.max_eq_left (by omega)] at k1
          simp only [F_X6_join_J149, F_X6_join_J162, F_X6_join_J214, l_0, l_1, l_2, l_3, l_4, l_5, l_6, l_7, l_8, l_9, l_10, l_11, l_12, l_13, l_14, l_15, l_16, l_17, l_18, l_19, l_20, l_21, l_24, l_25, l_26, l_27, l_31, l_33, l_41, l_65, l_67, l_71, l_84, l_120, l_127, l_128, l_130, l_160, l_162, l_200, l_255, l_256, l_999, l_1000, l_8000, l_9999, l_10000, l_8001, l_m1, ne10, t_p214 hS6, same6, t_k214 hS6, gqx, gqy, cq', k1, bd2_some, bdx_inl, bdx_inr, bdc_inl, bdc_inr, obd_some, ↓reduceIte]
      rw [s220, l1]
      have g5 := zJ_get5 J8 (k := 1) (by omega)
      rw [R81] at g5
      have cn : nI n ≤ nI n := nI_le (Nat.le_refl _) (by omega)
      simp only [F_X6_join_L220, l_0, l_1, l_2, l_3, l_4, l_5, l_6, l_7, l_8, l_9, l_10, l_11, l_12, l_13, l_14, l_15, l_16, l_17, l_18, l_19, l_20, l_21, l_24, l_25, l_26, l_27, l_31, l_33, l_41, l_65, l_67, l_71, l_84, l_120, l_127, l_128, l_130, l_160, l_162, l_200, l_255, l_256, l_999, l_1000, l_8000, l_9999, l_10000, l_8001, l_m1, t_k214 hS8, g5, cn, s1, t_k214 hS9, t1, t_k214 hS10, nI_add, u1, t_k214 hS11, v1, bd2_some, bdx_inl, bdx_inr, bdc_inl, bdc_inr, obd_some, ↓reduceIte]
    · rw [v2.2.2 0 (by omega), u2.2.2 0 (by omega), Mc]; exact ht0
theorem M_join {i : Int32} (hs : xOk s) (h : zMo z s S) : ∃ S', F_X6_join (z + 214) i S = some S' ∧ zMo z (o_join s i).2 S' ∧ zFr (z + 214) (z + 220) S S' ∧ mI S' (z + 214) 0 = (o_join s i).1 := by
  obtain ⟨hS, hl, hf, hd, ht⟩ := id h
  have hl24 := hs.2.2.2.2.1
  by_cases c : i < nI 0 ∨ nI (xL s).length ≤ i
  · rw [show o_join s i = (nI 1, s) from if_pos c]
    refine ⟨sI S (z + 214) 0 (nI 1), ?_, zMo_th h, zFr_th, by rw [mI_sI, if_pos ⟨rfl, rfl⟩]⟩
    simp only [F_X6_join, F_X6_join_J44, F_X6_join_J45, l_0, l_1, l_2, l_3, l_4, l_5, l_6, l_7, l_8, l_9, l_10, l_11, l_12, l_13, l_14, l_15, l_16, l_17, l_18, l_19, l_20, l_21, l_24, l_25, l_26, l_27, l_31, l_33, l_41, l_65, l_67, l_71, l_84, l_120, l_127, l_128, l_130, l_160, l_162, l_200, l_255, l_256, l_999, l_1000, l_8000, l_9999, l_10000, l_8001, l_m1, t_g214 hS, hl.1, m_out, c, ne10, t_k214 hS, m_th1 hS, bd2_some, bdx_inl, bdx_inr, bdc_inl, bdc_inr, obd_some, ↓reduceIte]
  obtain ⟨i', rfl, -, b3⟩ := in_of' (by omega) (fun e => c (Or.inl e)) (fun e => c (Or.inr e)) (by omega)
  have t1 : tn (nI i') = i' := tn_nI (by omega)
  by_cases c2 : (xL s).length ≤ i' + 1
  · have c2' : nI (i' + 1) = nI (xL s).length := by rw [show (xL s).length = i' + 1 by omega]
    rw [show o_join s (nI i') = (nI 2, s) from by unfold o_join; rw [if_neg c, t1, if_pos (Or.inl c2)]]
    refine ⟨sI S (z + 214) 0 (nI 2), ?_, zMo_th h, zFr_th, by rw [mI_sI, if_pos ⟨rfl, rfl⟩]⟩
    simp only [F_X6_join, F_X6_join_J40, F_X6_join_J45, l_0, l_1, l_2, l_3, l_4, l_5, l_6, l_7, l_8, l_9, l_10, l_11, l_12, l_13, l_14, l_15, l_16, l_17, l_18, l_19, l_20, l_21, l_24, l_25, l_26, l_27, l_31, l_33, l_41, l_65, l_67, l_71, l_84, l_120, l_127, l_128, l_130, l_160, l_162, l_200, l_255, l_256, l_999, l_1000, l_8000, l_9999, l_10000, l_8001, l_m1, t_g214 hS, hl.1, m_out, c, nI_add, c2', ne10, t_k214 hS, m_th2 hS, bd2_some, bdx_inl, bdx_inr, bdc_inl, bdc_inr, obd_some, ↓reduceIte]
  have c2' : ¬ nI (i' + 1) = nI (xL s).length := fun w => by have := (nI_eq (by omega) (by omega)).mp w; omega
  obtain ⟨gx, okx⟩ := xAt_ok hs b3
  obtain ⟨gy, oky⟩ := xAt_ok hs (show i' + 1 < (xL s).length by omega)
  have rx := hl.2 i' _ gx
  have ry := hl.2 (i' + 1) _ gy
  have o1 := ok31 hs.1 okx
  have o2 := ok31 hs.1 oky
  have g0 := m_get (i := i') (k := 0) hS (by omega)
  have g1 := m_get (i := i' + 1) (k := 0) hS (by omega)
  rw [Nat.add_zero (41 * i'), rx.1.1] at g0
  rw [Nat.add_zero (41 * (i' + 1)), ry.1.1] at g1
  by_cases c3 : aP (xAt s (i' + 1)) = aP (xAt s i')
  · have cc : ¬ ((xL s).length ≤ i' + 1 ∨ aP (xAt s (i' + 1)) ≠ aP (xAt s i')) := by
      rintro (q | q)
      · exact c2 q
      · exact q c3
    rw [c3] at g1
    have h1 := zMo_th (x := nI 0) h
    have hS1 := h1.1
    have rx1 := h1.2.1.2 i' _ gx
    have ry1 := h1.2.1.2 (i' + 1) _ gy
    have k0 := m_get (i := i') (k := 2) hS1 (by omega)
    have k1 := m_get (i := i' + 1) (k := 2) hS1 (by omega)
    have e0 := (rx1.2.1 0 (by have := okx.1.1; omega)).2.1
    have e1 := (ry1.2.1 0 (by have := oky.1.1; omega)).2.1
    rw [show 2 + 0 = 2 from rfl] at e0 e1
    rw [e0] at k0
    rw [e1] at k1
    have l0 := (okx.2.1.1 0 (by have := okx.1.1; omega)).2.1
    have l1 := (oky.2.1.1 0 (by have := oky.1.1; omega)).2.1
    obtain ⟨U1, U2⟩ := m_J88 (q := if aL (xAt s (i' + 1)) 0 ≤ aL (xAt s i') 0 then i' else i' + 1) hs h1 (show i' + 1 < (xL s).length by omega) rfl rfl c3 rfl (by rw [mI_sI, if_pos ⟨rfl, rfl⟩])
    have st : F_X6_join (z + 214) (nI i') S = F_X6_join_J88 (z + 214) (nI i') (nI i') (nI (i' + 1)) (nI (if aL (xAt s (i' + 1)) 0 ≤ aL (xAt s i') 0 then i' else i' + 1)) (sI S (z + 214) 0 (nI 0)) := by
      by_cases d : aL (xAt s (i' + 1)) 0 ≤ aL (xAt s i') 0
      · have d' : nI (aL (xAt s (i' + 1)) 0) ≤ nI (aL (xAt s i') 0) := nI_le d (by omega)
        rw [if_pos d]
        simp only [F_X6_join, F_X6_join_J44, F_X6_join_J45, l_0, l_1, l_2, l_3, l_4, l_5, l_6, l_7, l_8, l_9, l_10, l_11, l_12, l_13, l_14, l_15, l_16, l_17, l_18, l_19, l_20, l_21, l_24, l_25, l_26, l_27, l_31, l_33, l_41, l_65, l_67, l_71, l_84, l_120, l_127, l_128, l_130, l_160, l_162, l_200, l_255, l_256, l_999, l_1000, l_8000, l_9999, l_10000, l_8001, l_m1, t_g214 hS, hl.1, m_out, c, nI_add, c2', t_k214 hS, g1, g0, m_th0 hS, t_k214 hS1, k1, k0, d', bd2_some, bdx_inl, bdx_inr, bdc_inl, bdc_inr, obd_some, ↓reduceIte]
      · have d' : ¬ nI (aL (xAt s (i' + 1)) 0) ≤ nI (aL (xAt s i') 0) := nI_ge (by omega) (by omega)
        rw [if_neg d]
        simp only [F_X6_join, F_X6_join_J44, F_X6_join_J45, l_0, l_1, l_2, l_3, l_4, l_5, l_6, l_7, l_8, l_9, l_10, l_11, l_12, l_13, l_14, l_15, l_16, l_17, l_18, l_19, l_20, l_21, l_24, l_25, l_26, l_27, l_31, l_33, l_41, l_65, l_67, l_71, l_84, l_120, l_127, l_128, l_130, l_160, l_162, l_200, l_255, l_256, l_999, l_1000, l_8000, l_9999, l_10000, l_8001, l_m1, t_g214 hS, hl.1, m_out, c, nI_add, c2', t_k214 hS, g1, g0, m_th0 hS, t_k214 hS1, k1, k0, d', bd2_some, bdx_inl, bdx_inr, bdc_inl, bdc_inr, obd_some, ↓reduceIte]
    rw [st]
    cases ej : jJoin (xAt s i') (xAt s (i' + 1)) with
    | none =>
      obtain ⟨S1, u1, u2, u3, u4⟩ := U1 ej
      rw [show o_join s (nI i') = (nI 3, s) from by unfold o_join; rw [if_neg c, t1, if_neg cc, ej]]
      exact ⟨S1, u1, u2, zFr_trans zFr_th u3, u4⟩
    | some r =>
      obtain ⟨S1, u1, u2, u3, u4⟩ := U2 r ej
      rw [show o_join s (nI i') = (nI 0, wList s (((xL s).eraseIdx (i' + 1)).set i' r)) from by unfold o_join; rw [if_neg c, t1, if_neg cc, ej]]
      exact ⟨S1, u1, u2, zFr_trans zFr_th u3, u4⟩
  · have c3' : ¬ nI (aP (xAt s (i' + 1))) = nI (aP (xAt s i')) := fun w => c3 ((nI_eq (by omega) (by omega)).mp w)
    rw [show o_join s (nI i') = (nI 2, s) from by unfold o_join; rw [if_neg c, t1, if_pos (Or.inr c3)]]
    refine ⟨sI S (z + 214) 0 (nI 2), ?_, zMo_th h, zFr_th, by rw [mI_sI, if_pos ⟨rfl, rfl⟩]⟩
    simp only [F_X6_join, F_X6_join_J40, F_X6_join_J45, l_0, l_1, l_2, l_3, l_4, l_5, l_6, l_7, l_8, l_9, l_10, l_11, l_12, l_13, l_14, l_15, l_16, l_17, l_18, l_19, l_20, l_21, l_24, l_25, l_26, l_27, l_31, l_33, l_41, l_65, l_67, l_71, l_84, l_120, l_127, l_128, l_130, l_160, l_162, l_200, l_255, l_256, l_999, l_1000, l_8000, l_9999, l_10000, l_8001, l_m1, t_g214 hS, hl.1, m_out, c, nI_add, c2', t_k214 hS, g1, g0, c3', ne10, m_th2 hS, bd2_some, bdx_inl, bdx_inr, bdc_inl, bdc_inr, obd_some, ↓reduceIte]
end M21
