set_option maxRecDepth 20000
section M17
variable {S S' S0 S1 S2 : Mem} {z n a b i j k o o' e q x m : Nat} {r : Rc} {s : As} {W W' R : Nat → Int32} {ls : List Rc} {t u : List Nat} {f : Nat → Nat}
theorem zMo_ty0 (h : zMo z s S) : zMo z (wTyped s []) (sI S (z + 214) 9 (nI 0)) := by
  obtain ⟨hS, hl, hf, hd, ht⟩ := h
  have e : ∀ q, q ≠ 9 → mI (sI S (z + 214) 9 (nI 0)) (z + 214) q = mI S (z + 214) q := fun q hq => by rw [mI_sI, if_neg (by omega)]
  have e2 : ∀ q, q ≠ z + 214 → mI (sI S (z + 214) 9 (nI 0)) q = mI S q := fun q hq => by rw [mI_sI_r, if_neg hq]
  have w := e2 (z + 216) (by omega)
  refine ⟨hS, ⟨by rw [e 4 (by omega)]; exact hl.1, by rw [w]; exact hl.2⟩, zMf_of (e 2 (by omega)) (e2 _ (by omega)) hf, ⟨by rw [e 3 (by omega)]; exact hd.1, by rw [w]; exact hd.2⟩, ⟨by rw [mI_sI, if_pos ⟨rfl, rfl⟩]; rfl, fun i b hb => by
    have hb' : ([] : List Nat)[i]? = some b := hb
    simp at hb'⟩⟩
theorem m_rdf {v1 : Int32} (h : zMo z s S) (hv : v1 = nI 0 ∨ v1 = nI 1) : F_X6_read_J61 (z + 214) v1 S = some (nI 0, sI (sI S (z + 214) 9 (nI 0)) (z + 214) 0 (if v1 = nI 0 then nI 1 else nI 2)) := by
  have hS := h.1
  have h1 : zSt z (sI S (z + 214) 9 (nI 0)) := hS
  have core : F_X6_read_J104 (z + 214) v1 (nI 0) S = some (nI 0, sI (sI S (z + 214) 9 (nI 0)) (z + 214) 0 (if v1 = nI 0 then nI 1 else nI 2)) := by
    rcases hv with e | e <;> subst e
    · simp only [F_X6_read_J104, F_X6_read_J127, l_0, l_1, l_2, l_3, l_4, l_5, l_6, l_7, l_8, l_9, l_10, l_11, l_12, l_13, l_14, l_15, l_16, l_17, l_18, l_19, l_20, l_21, l_24, l_25, l_26, l_27, l_31, l_33, l_41, l_65, l_67, l_71, l_84, l_120, l_127, l_128, l_130, l_160, l_162, l_200, l_255, l_256, l_999, l_1000, l_8000, l_9999, l_10000, l_8001, l_m1, t_p214 hS, t_p214 h1, bd2_some, bdx_inl, bdx_inr, bdc_inl, bdc_inr, obd_some, ↓reduceIte]
    · simp only [F_X6_read_J104, F_X6_read_J127, l_0, l_1, l_2, l_3, l_4, l_5, l_6, l_7, l_8, l_9, l_10, l_11, l_12, l_13, l_14, l_15, l_16, l_17, l_18, l_19, l_20, l_21, l_24, l_25, l_26, l_27, l_31, l_33, l_41, l_65, l_67, l_71, l_84, l_120, l_127, l_128, l_130, l_160, l_162, l_200, l_255, l_256, l_999, l_1000, l_8000, l_9999, l_10000, l_8001, l_m1, ne10, t_p214 hS, t_p214 h1, bd2_some, bdx_inl, bdx_inr, bdc_inl, bdc_inr, obd_some, ↓reduceIte]
  show F_X6_read_L65 (3999 + 1) (z + 214) v1 (nI 0) (nI 0) S = _
  rw [F_X6_read_L65, t_g214 hS, obd_some]
  by_cases c : mI S (z + 214) 9 ≤ nI 0
  · rw [if_pos c]; exact core
  · rw [if_neg c, if_pos (show nI 0 = 0 from rfl)]; exact core
theorem m_cmp_L (h : zSt z S) (h1 : zOu z S t) (h2 : zMt z S u) (hl : t.length = u.length) (hn : u.length ≤ 120) (hb : ∀ b, b ∈ t → b < 2147483648) (hb' : ∀ b, b ∈ u → b < 256) : ∀ (m fu j : Nat), j + m = t.length → m + 1 < fu → (∀ k, k < j → t[k]? = u[k]?) → F_X6_read_L65 fu (z + 214) (nI 0) (nI 1) (nI j) S = F_X6_read_J104 (z + 214) (nI 0) (if t = u then nI 1 else nI 0) S := by
  intro m
  induction m with
  | zero =>
    intro fu j hj hf he
    obtain ⟨fu, rfl⟩ : ∃ f, fu = f + 1 := ⟨fu - 1, by omega⟩
    have c1 : nI u.length ≤ nI j := nI_le (by omega) (by omega)
    have e : t = u := by
      refine List.ext_getElem? (fun k => ?_)
      by_cases c : k < j
      · exact he k c
      · rw [List.getElem?_eq_none (by omega), List.getElem?_eq_none (by omega)]
    rw [if_pos e]
    simp only [F_X6_read_L65, l_0, l_1, l_2, l_3, l_4, l_5, l_6, l_7, l_8, l_9, l_10, l_11, l_12, l_13, l_14, l_15, l_16, l_17, l_18, l_19, l_20, l_21, l_24, l_25, l_26, l_27, l_31, l_33, l_41, l_65, l_67, l_71, l_84, l_120, l_127, l_128, l_130, l_160, l_162, l_200, l_255, l_256, l_999, l_1000, l_8000, l_9999, l_10000, l_8001, l_m1, t_g214 h, h2.1, c1, bd2_some, bdx_inl, bdx_inr, bdc_inl, bdc_inr, obd_some, ↓reduceIte]
  | succ m ih =>
    intro fu j hj hf he
    obtain ⟨fu, rfl⟩ : ∃ f, fu = f + 1 := ⟨fu - 1, by omega⟩
    have c1 : ¬ nI u.length ≤ nI j := nI_ge (by omega) (by omega)
    have e1 : t[j]? = some t[j] := List.getElem?_eq_getElem (by omega)
    have e2 : u[j]? = some u[j] := List.getElem?_eq_getElem (by omega)
    have a1 := t_a217 (k := j) h (by omega)
    have a2 := t_a218 (k := j) h (by omega)
    rw [h1.2 j _ e1] at a1
    rw [h2.2 j _ e2] at a2
    have l1 := hb _ (List.mem_of_getElem? e1)
    have l2 := hb' _ (List.mem_of_getElem? e2)
    by_cases c2 : t[j] = u[j]
    · have c2' : nI t[j] = nI u[j] := by rw [c2]
      have := ih fu (j + 1) (by omega) (by omega) (fun k hk => by
        by_cases c : k = j
        · subst c; rw [e1, e2, c2]
        · exact he k (by omega))
      rw [← this]
      simp only [F_X6_read_L65, F_X6_read_J97, l_0, l_1, l_2, l_3, l_4, l_5, l_6, l_7, l_8, l_9, l_10, l_11, l_12, l_13, l_14, l_15, l_16, l_17, l_18, l_19, l_20, l_21, l_24, l_25, l_26, l_27, l_31, l_33, l_41, l_65, l_67, l_71, l_84, l_120, l_127, l_128, l_130, l_160, l_162, l_200, l_255, l_256, l_999, l_1000, l_8000, l_9999, l_10000, l_8001, l_m1, t_g214 h, h2.1, c1, ne10, t_r214_6 h, t_r214_8 h, a1, a2, c2', nI_add, bd2_some, bdx_inl, bdx_inr, bdc_inl, bdc_inr, obd_some, ↓reduceIte]
    · have c2' : ¬ nI t[j] = nI u[j] := fun q => c2 ((nI_eq (by omega) (by omega)).mp q)
      have e : ¬ t = u := fun q => c2 (by subst q; rfl)
      rw [if_neg e]
      obtain ⟨fu, rfl⟩ : ∃ f, fu = f + 1 := ⟨fu - 1, by omega⟩
      have st : F_X6_read_L65 (fu + 1 + 1) (z + 214) (nI 0) (nI 1) (nI j) S = F_X6_read_L65 (fu + 1) (z + 214) (nI 0) (nI 0) (nI (j + 1)) S := by
        rw [F_X6_read_L65]
        simp only [F_X6_read_J97, l_0, l_1, l_2, l_3, l_4, l_5, l_6, l_7, l_8, l_9, l_10, l_11, l_12, l_13, l_14, l_15, l_16, l_17, l_18, l_19, l_20, l_21, l_24, l_25, l_26, l_27, l_31, l_33, l_41, l_65, l_67, l_71, l_84, l_120, l_127, l_128, l_130, l_160, l_162, l_200, l_255, l_256, l_999, l_1000, l_8000, l_9999, l_10000, l_8001, l_m1, t_g214 h, h2.1, c1, ne10, t_r214_6 h, t_r214_8 h, a1, a2, c2', nI_add, bd2_some, bdx_inl, bdx_inr, bdc_inl, bdc_inr, obd_some, ↓reduceIte]
      rw [st, F_X6_read_L65, t_g214 h, obd_some]
      by_cases c : mI S (z + 214) 9 ≤ nI (j + 1)
      · rw [if_pos c]
      · rw [if_neg c, if_pos (show nI 0 = 0 from rfl)]
theorem M_read (hs : xOk s) (h : zMo z s S) : ∃ S', F_X6_read (z + 214) S = some ((o_read s).2.1, S') ∧ zMo z (o_read s).2.2 S' ∧ zFr (z + 214) (z + 220) S S' ∧ mI S' (z + 214) 0 = (o_read s).1 := by
  obtain ⟨hS, hl, hf, hd, ht⟩ := id h
  have hl24 := hs.2.2.2.2.1
  have fin1 : ∀ {T : Mem} {c : Int32}, zMo z s T → zFr (z + 214) (z + 220) S T → zMo z (wTyped s []) (sI (sI T (z + 214) 9 (nI 0)) (z + 214) 0 c) ∧ zFr (z + 214) (z + 220) S (sI (sI T (z + 214) 9 (nI 0)) (z + 214) 0 c) ∧ mI (sI (sI T (z + 214) 9 (nI 0)) (z + 214) 0 c) (z + 214) 0 = c := by
    intro T c hT hF
    exact ⟨zMo_th (zMo_ty0 hT), zFr_trans hF (zFr_trans (zFr_sI (by omega) (by omega)) zFr_th), by rw [mI_sI, if_pos ⟨rfl, rfl⟩]⟩
  by_cases c2 : (xL s).length = 24
  · have c2' : nI (xL s).length = nI 24 := by rw [c2]
    rw [show o_read s = (nI 2, nI 0, wTyped s []) from if_pos c2]
    have g := m_rdf (v1 := nI 1) h (Or.inr rfl)
    rw [if_neg ne10] at g
    refine ⟨_, ?_, fin1 h zFr_refl⟩
    rotate_left
    · simp only [F_X6_read, F_X6_read_J14, F_X6_read_J30, F_X6_read_J31, F_X6_read_J42, l_0, l_1, l_2, l_3, l_4, l_5, l_6, l_7, l_8, l_9, l_10, l_11, l_12, l_13, l_14, l_15, l_16, l_17, l_18, l_19, l_20, l_21, l_24, l_25, l_26, l_27, l_31, l_33, l_41, l_65, l_67, l_71, l_84, l_120, l_127, l_128, l_130, l_160, l_162, l_200, l_255, l_256, l_999, l_1000, l_8000, l_9999, l_10000, l_8001, l_m1, t_g214 hS, hl.1, c2', ne10, bd2_some, bdx_inl, bdx_inr, bdc_inl, bdc_inr, obd_some, ↓reduceIte]
      exact g
  have c2' : ¬ nI (xL s).length = nI 24 := fun q => c2 ((nI_eq (by omega) (by omega)).mp q)
  have M := m_taken (z := z) (S := S) (t := xT s) hs.1 hs.2.1 hS hf ht hs.2.2.2.2.2.1 hs.2.2.2.2.2.2
  have keep : ∀ {T : Mem} {R : Nat → Int32}, zR5 z S T R → zMo z s T := by
    intro T R hT
    exact zMo_w (s := s) hs h hT.2.1 (zMl_of hT.2.2.1 (fun i k hi hk => hT.2.2.2.2 i k (by have hi' : i < (xL s).length := hi; omega) hk) (n4_of hs) hl) (fun k hk => hT.2.2.2.2 24 k (by omega) hk)
  cases e : prse (xP s) (xF s) (xT s) with
  | none =>
    rw [e] at M
    obtain ⟨S1, R, a1, a2⟩ := M
    rw [show o_read s = (nI 1, nI 0, wTyped s []) from by unfold o_read; rw [if_neg c2, e]]
    have g := m_rdf (v1 := nI 0) (keep a2) (Or.inl rfl)
    rw [if_pos rfl] at g
    refine ⟨_, ?_, fin1 (keep a2) (zFr_mono a2.2.1.1 (by omega) (by omega))⟩
    rotate_left
    · simp only [F_X6_read, F_X6_read_J14, F_X6_read_J30, F_X6_read_J31, F_X6_read_J42, l_0, l_1, l_2, l_3, l_4, l_5, l_6, l_7, l_8, l_9, l_10, l_11, l_12, l_13, l_14, l_15, l_16, l_17, l_18, l_19, l_20, l_21, l_24, l_25, l_26, l_27, l_31, l_33, l_41, l_65, l_67, l_71, l_84, l_120, l_127, l_128, l_130, l_160, l_162, l_200, l_255, l_256, l_999, l_1000, l_8000, l_9999, l_10000, l_8001, l_m1, t_g214 hS, hl.1, c2', t_k214 hS, a1, bd2_some, bdx_inl, bdx_inr, bdc_inl, bdc_inr, obd_some, ↓reduceIte]
      exact g
  | some r =>
    rw [e] at M
    obtain ⟨S1, R, a1, a2, a3⟩ := M
    have ok := prse_ok e
    have hw := aWr_of hs.1 ok
    have hM1 := keep a2
    obtain ⟨S2, b1, b2, b3⟩ := m_wout (i := 25) hM1.1 (by omega) a3 hw (fun j hj => (ok.2.1.1 j hj).1) (fun j hj => by have h1 := ok.2.1.1 j hj; have := p4_8 h1.2.1; omega)
    have hM2 := zMo_Wo hM1 b3
    have hS2 := hM2.1
    have F2 : zFr (z + 214) (z + 220) S S2 := zFr_trans (zFr_mono a2.2.1.1 (by omega) (by omega)) (zFr_mono b3.1 (by omega) (by omega))
    have hlen := bts_len hw.1 (fun i hi => (hw.2.1 i hi).1)
    have hT := hs.2.2.2.2.2.1
    have st : F_X6_read (z + 214) S = F_X6_read_J42 (z + 214) (nI 0) (nI 1) S2 := by
      simp only [F_X6_read, F_X6_read_J14, F_X6_read_J31, l_0, l_1, l_2, l_3, l_4, l_5, l_6, l_7, l_8, l_9, l_10, l_11, l_12, l_13, l_14, l_15, l_16, l_17, l_18, l_19, l_20, l_21, l_24, l_25, l_26, l_27, l_31, l_33, l_41, l_65, l_67, l_71, l_84, l_120, l_127, l_128, l_130, l_160, l_162, l_200, l_255, l_256, l_999, l_1000, l_8000, l_9999, l_10000, l_8001, l_m1, t_g214 hS, hl.1, c2', t_k214 hS, a1, ne10, t_k214 hM1.1, b1, bd2_some, bdx_inl, bdx_inr, bdc_inl, bdc_inr, obd_some, ↓reduceIte]
    rw [st]
    by_cases c4 : bts r = xT s
    · rw [show o_read s = (nI 0, nI (ipos (xL s) (aP r)), wTyped (wList s (insR (xL s) r)) []) from by unfold o_read; rw [if_neg c2, e]; exact if_pos c4]
      have c5 : nI (bts r).length = nI (xT s).length := by rw [c4]
      have M := m_cmp_L hS2 b2 hM2.2.2.2.2 (by rw [c4]) hT (bts_lt hw) hs.2.2.2.2.2.2 (bts r).length FU 0 (by omega) (by show (bts r).length + 1 < 4000; omega) (fun k hk => by omega)
      rw [if_pos c4] at M
      have hM3 := zMo_th (x := nI 0) (zMo_ty0 hM2)
      have hS3 := hM3.1
      have W3 : mI (sI (sI S2 (z + 214) 9 (nI 0)) (z + 214) 0 (nI 0)) (z + 216) = mI S1 (z + 216) := by
        rw [mI_sI_r, if_neg (by omega), mI_sI_r, if_neg (by omega), b3.2.2.1]
      have o2 := ok31 hs.1 ok
      obtain ⟨S4, q1, q2, q3, q4⟩ := m_enter (a := 25) (r := r) (ls := xL s) hS3 hM3.2.1 (n4_of hs) (by omega) (by omega) (by omega) ok.1.2 o2.2.1 (fun t ht => (ok31 hs.1 (hs.2.2.2.1 t ht)).2.1) (by rw [W3]; exact a3)
      have hs3 : xOk (wTyped s []) := ⟨hs.1, hs.2.1, hs.2.2.1, hs.2.2.2.1, hs.2.2.2.2.1, Nat.zero_le _, fun b hb => by cases hb⟩
      refine ⟨S4, ?_, zMo_w hs3 hM3 q2 q3 (fun k hk => q4 24 k (Nat.le_refl _) hk), zFr_trans F2 (zFr_trans (zFr_trans (zFr_sI (by omega) (by omega)) zFr_th) (zFr_mono q2.1 (by omega) (by omega))), ?_⟩
      · have s2 : F_X6_read_J42 (z + 214) (nI 0) (nI 1) S2 = F_X6_read_J104 (z + 214) (nI 0) (nI 1) S2 := by
          rw [← M]
          simp only [F_X6_read_J42, F_X6_read_J62, l_0, l_1, l_2, l_3, l_4, l_5, l_6, l_7, l_8, l_9, l_10, l_11, l_12, l_13, l_14, l_15, l_16, l_17, l_18, l_19, l_20, l_21, l_24, l_25, l_26, l_27, l_31, l_33, l_41, l_65, l_67, l_71, l_84, l_120, l_127, l_128, l_130, l_160, l_162, l_200, l_255, l_256, l_999, l_1000, l_8000, l_9999, l_10000, l_8001, l_m1, ne10, t_g214 hS2, b2.1, hM2.2.2.2.2.1, c5, bd2_some, bdx_inl, bdx_inr, bdc_inl, bdc_inr, obd_some, ↓reduceIte]
        rw [s2]
        have h2' : zSt z (sI S2 (z + 214) 9 (nI 0)) := hS2
        simp only [F_X6_read_J104, F_X6_read_J127, l_0, l_1, l_2, l_3, l_4, l_5, l_6, l_7, l_8, l_9, l_10, l_11, l_12, l_13, l_14, l_15, l_16, l_17, l_18, l_19, l_20, l_21, l_24, l_25, l_26, l_27, l_31, l_33, l_41, l_65, l_67, l_71, l_84, l_120, l_127, l_128, l_130, l_160, l_162, l_200, l_255, l_256, l_999, l_1000, l_8000, l_9999, l_10000, l_8001, l_m1, ne10, t_p214 hS2, t_p214 h2', t_k214 hS3, q1, bd2_some, bdx_inl, bdx_inr, bdc_inl, bdc_inr, obd_some, ↓reduceIte]
      · rw [q2.2.2 0 (by omega), mI_sI, if_pos ⟨rfl, rfl⟩]
    · rw [show o_read s = (nI 1, nI 0, wTyped s []) from by unfold o_read; rw [if_neg c2, e]; exact if_neg c4]
      have g := m_rdf (v1 := nI 0) hM2 (Or.inl rfl)
      rw [if_pos rfl] at g
      refine ⟨_, ?_, fin1 hM2 F2⟩
      rotate_left
      by_cases c5 : (bts r).length = (xT s).length
      · have c5' : nI (bts r).length = nI (xT s).length := by rw [c5]
        have M := m_cmp_L hS2 b2 hM2.2.2.2.2 c5 hT (bts_lt hw) hs.2.2.2.2.2.2 (bts r).length FU 0 (by omega) (by show (bts r).length + 1 < 4000; omega) (fun k hk => by omega)
        rw [if_neg c4] at M
        have s2 : F_X6_read_J42 (z + 214) (nI 0) (nI 1) S2 = F_X6_read_J104 (z + 214) (nI 0) (nI 0) S2 := by
          rw [← M]
          simp only [F_X6_read_J42, F_X6_read_J62, l_0, l_1, l_2, l_3, l_4, l_5, l_6, l_7, l_8, l_9, l_10, l_11, l_12, l_13, l_14, l_15, l_16, l_17, l_18, l_19, l_20, l_21, l_24, l_25, l_26, l_27, l_31, l_33, l_41, l_65, l_67, l_71, l_84, l_120, l_127, l_128, l_130, l_160, l_162, l_200, l_255, l_256, l_999, l_1000, l_8000, l_9999, l_10000, l_8001, l_m1, ne10, t_g214 hS2, b2.1, hM2.2.2.2.2.1, c5', bd2_some, bdx_inl, bdx_inr, bdc_inl, bdc_inr, obd_some, ↓reduceIte]
        rw [s2]
        have h2' : zSt z (sI S2 (z + 214) 9 (nI 0)) := hS2
        simp only [F_X6_read_J104, F_X6_read_J127, l_0, l_1, l_2, l_3, l_4, l_5, l_6, l_7, l_8, l_9, l_10, l_11, l_12, l_13, l_14, l_15, l_16, l_17, l_18, l_19, l_20, l_21, l_24, l_25, l_26, l_27, l_31, l_33, l_41, l_65, l_67, l_71, l_84, l_120, l_127, l_128, l_130, l_160, l_162, l_200, l_255, l_256, l_999, l_1000, l_8000, l_9999, l_10000, l_8001, l_m1, t_p214 hS2, t_p214 h2', bd2_some, bdx_inl, bdx_inr, bdc_inl, bdc_inr, obd_some, ↓reduceIte]
      · have c5' : ¬ nI (bts r).length = nI (xT s).length := fun q => c5 ((nI_eq (by omega) (by omega)).mp q)
        simp only [F_X6_read_J42, l_0, l_1, l_2, l_3, l_4, l_5, l_6, l_7, l_8, l_9, l_10, l_11, l_12, l_13, l_14, l_15, l_16, l_17, l_18, l_19, l_20, l_21, l_24, l_25, l_26, l_27, l_31, l_33, l_41, l_65, l_67, l_71, l_84, l_120, l_127, l_128, l_130, l_160, l_162, l_200, l_255, l_256, l_999, l_1000, l_8000, l_9999, l_10000, l_8001, l_m1, ne10, t_g214 hS2, b2.1, hM2.2.2.2.2.1, c5', bd2_some, bdx_inl, bdx_inr, bdc_inl, bdc_inr, obd_some, ↓reduceIte]
        exact g
end M17
