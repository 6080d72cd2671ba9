set_option maxRecDepth 20000
section C17
variable {S S' S1 S2 : Mem} {z v n a lo hi o k i A f N p : Nat} {r : Rc} {s : As} {t u : List Nat} {rf : Nat → Nat}
theorem bRow_lt {f : Nat → Nat} (hn : n ≤ 10) (h : ∀ i, i < n → f i ≤ 9999) : ∀ b, b ∈ bRow f n → b < 2147483648 := by
  intro b hb
  unfold bRow at hb
  rcases List.mem_cons.mp hb with e | e
  · rw [e]; split <;> omega
  · obtain ⟨i, h1, h2⟩ := List.mem_flatMap.mp e
    have h3 := h i (List.mem_range.mp h1)
    split at h2
    · rcases List.mem_cons.mp h2 with e | e
      · omega
      · have := List.mem_singleton.mp e; omega
    · have := List.mem_singleton.mp h2; omega
theorem ltr_lt (b : Nat) : ltr b < 256 := by
  unfold ltr
  rcases (show b = 0 ∨ b = 1 ∨ b = 2 ∨ b = 3 ∨ 4 ≤ b by omega) with e | e | e | e | e
  · subst e; decide
  · subst e; decide
  · subst e; decide
  · subst e; decide
  · rw [List.getD_eq_getElem?_getD, List.getElem?_eq_none (by simpa using e)]; decide
theorem bSm_lt {m : Nat} (hm : m < 2) (hw : aWr r) : ∀ b, b ∈ bSm r m → b < 2147483648 := by
  intro b hb
  unfold bSm at hb
  have hn := hw.1
  have p10 := prs_le hn
  obtain ⟨-, -, -, h1, h2, h3, h4, h5⟩ := hw
  have g1 := h3 (2 * m) (by omega)
  have g2 := h3 (2 * m + 1) (by omega)
  have g3 := h4 m hm
  rcases List.mem_append.mp hb with e | e
  · rcases List.mem_cons.mp e with e | e
    · omega
    · rcases List.mem_cons.mp e with e | e
      · omega
      · have := List.mem_singleton.mp e; omega
  · refine bRow_lt p10 (fun i hi => ?_) b e
    have := h5 i hi
    rcases (show m = 0 ∨ m = 1 by omega) with e | e <;> subst e
    · rw [show 10 * 0 + i = i by omega]; omega
    · rw [show 10 * 1 + i = 10 + i by omega]; omega
theorem bts_lt (hw : aWr r) : ∀ b, b ∈ bts r → b < 2147483648 := by
  intro b hb
  unfold bts at hb
  have hn := hw.1
  have h3 := hw.2.2.1
  have h4 := hw.2.2.2.1
  rcases List.mem_append.mp hb with hb | e
  · rcases List.mem_append.mp hb with hb | e
    · rcases List.mem_append.mp hb with hb | e
      · rcases List.mem_append.mp hb with hb | e
        · simp only [List.mem_cons, List.not_mem_nil, or_false] at hb
          omega
        · obtain ⟨i, h1, h2⟩ := List.mem_flatMap.mp e
          have h5 := hw.2.1 i (List.mem_range.mp h1)
          unfold bAl at h2
          rcases List.mem_cons.mp h2 with e | e
          · omega
          · obtain ⟨j, -, h7⟩ := List.mem_map.mp e
            have := ltr_lt (aB r i / 4 ^ (aL r i - 1 - j) % 4)
            omega
      · exact bRow_lt (by omega) hw.2.2.2.2.1 b e
    · exact bSm_lt (by omega) hw b e
  · exact bSm_lt (by omega) hw b e
theorem c_same_L (hS : zSt z S) (h1 : zBy S (z + 212) t) (h2 : zBy S (z + 210) u) (hl : t.length = u.length) (hn : t.length ≤ 120) (hb : ∀ b, b ∈ t → b < 2147483648) (hb' : ∀ b, b ∈ u → b < 256) : ∀ (m fu j : Nat), j + m = t.length → m < fu → (∀ k, k < j → t[k]? = u[k]?) → F_X0_isSame_L15 fu (z + 212) (z + 210) (nI j) S = some (if t = u then nI 1 else nI 0, S) := by
  intro m
  induction m with
  | zero =>
    intro fu j hj hf he
    obtain ⟨fu, rfl⟩ : ∃ f, fu = f + 1 := ⟨fu - 1, by omega⟩
    have c1 : nI t.length ≤ nI j := nI_le (by omega) (by omega)
    have e : t = u := by
      refine List.ext_getElem? (fun k => ?_)
      by_cases c : k < j
      · exact he k c
      · rw [List.getElem?_eq_none (by omega), List.getElem?_eq_none (by omega)]
    rw [if_pos e]
    simp only [F_X0_isSame_L15, l_0, l_1, l_2, l_3, l_4, l_5, l_6, l_7, l_8, l_9, l_10, l_11, l_12, l_13, l_14, l_15, l_16, l_17, l_18, l_19, l_20, l_21, l_24, l_25, l_26, l_27, l_31, l_33, l_41, l_65, l_67, l_71, l_84, l_120, l_127, l_128, l_130, l_160, l_162, l_200, l_255, l_256, l_999, l_1000, l_8000, l_9999, l_10000, l_8001, l_m1, t_k0, t_g0, t_p0, t_z0, t_k1, t_g1, t_p1, t_z1, t_k3, t_g3, t_p3, t_z3, t_k187, t_g187, t_p187, t_z187, t_k210, t_g210, t_p210, t_z210, t_k212, t_g212, t_p212, t_z212, t_k214, t_g214, t_p214, t_z214, t_r0_0, t_r0_1, t_r0_2, t_r0_4, t_r0_5, t_r0_6, t_r0_7, t_r1_0, t_r3_0, t_r187_0, t_r187_1, t_r187_2, t_r187_3, t_r210_0, t_r212_0, t_r214_1, t_r214_5, t_r214_6, t_r214_8, t_r214_10, t_a2, t_s2, t_a209, t_s209, t_a211, t_s211, t_a213, t_s213, t_a215, t_s215, t_a216, t_s216, t_a217, t_s217, t_a218, t_s218, t_a219, t_s219, t_a4, t_s4, zSt_sI, zSt_sF, zSt_zI, zSt_sJ, zSt_sD, zBo_0, zBo_1, hS, h1.1, c1, bd2_some, bdx_inl, bdx_inr, bdc_inl, bdc_inr, obd_some, ↓reduceIte]
  | succ m ih =>
    intro fu j hj hf he
    obtain ⟨fu, rfl⟩ : ∃ f, fu = f + 1 := ⟨fu - 1, by omega⟩
    have c1 : ¬ nI t.length ≤ nI j := nI_ge (by omega) (by omega)
    have j120 : j < 120 := by omega
    have e1 : t[j]? = some t[j] := List.getElem?_eq_getElem (by omega)
    have e2 : u[j]? = some u[j] := List.getElem?_eq_getElem (by omega)
    have m1 := h1.2 j _ e1
    have m2 := h2.2 j _ e2
    have l1 := hb _ (List.mem_of_getElem? e1)
    have l2 := hb' _ (List.mem_of_getElem? e2)
    rw [show z + 212 + 1 = z + 213 from rfl] at m1
    rw [show z + 210 + 1 = z + 211 from rfl] at m2
    by_cases c2 : t[j] = u[j]
    · have c2' : nI t[j] = nI u[j] := by rw [c2]
      have := ih fu (j + 1) (by omega) (by omega) (fun k hk => by
        by_cases c : k = j
        · subst c; rw [e1, e2, c2]
        · exact he k (by omega))
      rw [← this]
      simp only [F_X0_isSame_L15, l_0, l_1, l_2, l_3, l_4, l_5, l_6, l_7, l_8, l_9, l_10, l_11, l_12, l_13, l_14, l_15, l_16, l_17, l_18, l_19, l_20, l_21, l_24, l_25, l_26, l_27, l_31, l_33, l_41, l_65, l_67, l_71, l_84, l_120, l_127, l_128, l_130, l_160, l_162, l_200, l_255, l_256, l_999, l_1000, l_8000, l_9999, l_10000, l_8001, l_m1, t_k0, t_g0, t_p0, t_z0, t_k1, t_g1, t_p1, t_z1, t_k3, t_g3, t_p3, t_z3, t_k187, t_g187, t_p187, t_z187, t_k210, t_g210, t_p210, t_z210, t_k212, t_g212, t_p212, t_z212, t_k214, t_g214, t_p214, t_z214, t_r0_0, t_r0_1, t_r0_2, t_r0_4, t_r0_5, t_r0_6, t_r0_7, t_r1_0, t_r3_0, t_r187_0, t_r187_1, t_r187_2, t_r187_3, t_r210_0, t_r212_0, t_r214_1, t_r214_5, t_r214_6, t_r214_8, t_r214_10, t_a2, t_s2, t_a209, t_s209, t_a211, t_s211, t_a213, t_s213, t_a215, t_s215, t_a216, t_s216, t_a217, t_s217, t_a218, t_s218, t_a219, t_s219, t_a4, t_s4, zSt_sI, zSt_sF, zSt_zI, zSt_sJ, zSt_sD, zBo_0, zBo_1, hS, h1.1, c1, j120, m1, m2, c2', bd2_some, bdx_inl, bdx_inr, bdc_inl, bdc_inr, obd_some, ↓reduceIte, nI_add]
    · have c2' : ¬ nI t[j] = nI u[j] := fun q => c2 ((nI_eq (by omega) (by omega)).mp q)
      have e : ¬ t = u := fun q => c2 (by subst q; rfl)
      rw [if_neg e]
      simp only [F_X0_isSame_L15, l_0, l_1, l_2, l_3, l_4, l_5, l_6, l_7, l_8, l_9, l_10, l_11, l_12, l_13, l_14, l_15, l_16, l_17, l_18, l_19, l_20, l_21, l_24, l_25, l_26, l_27, l_31, l_33, l_41, l_65, l_67, l_71, l_84, l_120, l_127, l_128, l_130, l_160, l_162, l_200, l_255, l_256, l_999, l_1000, l_8000, l_9999, l_10000, l_8001, l_m1, t_k0, t_g0, t_p0, t_z0, t_k1, t_g1, t_p1, t_z1, t_k3, t_g3, t_p3, t_z3, t_k187, t_g187, t_p187, t_z187, t_k210, t_g210, t_p210, t_z210, t_k212, t_g212, t_p212, t_z212, t_k214, t_g214, t_p214, t_z214, t_r0_0, t_r0_1, t_r0_2, t_r0_4, t_r0_5, t_r0_6, t_r0_7, t_r1_0, t_r3_0, t_r187_0, t_r187_1, t_r187_2, t_r187_3, t_r210_0, t_r212_0, t_r214_1, t_r214_5, t_r214_6, t_r214_8, t_r214_10, t_a2, t_s2, t_a209, t_s209, t_a211, t_s211, t_a213, t_s213, t_a215, t_s215, t_a216, t_s216, t_a217, t_s217, t_a218, t_s218, t_a219, t_s219, t_a4, t_s4, zSt_sI, zSt_sF, zSt_zI, zSt_sJ, zSt_sD, zBo_0, zBo_1, hS, h1.1, c1, j120, m1, m2, c2', bd2_some, bdx_inl, bdx_inr, bdc_inl, bdc_inr, obd_some, ↓reduceIte]
theorem c_same (hS : zSt z S) (h1 : zBy S (z + 212) t) (h2 : zBy S (z + 210) u) (hn : t.length ≤ 120) (hn' : u.length ≤ 120) (hb : ∀ b, b ∈ t → b < 2147483648) (hb' : ∀ b, b ∈ u → b < 256) : F_X0_isSame (z + 212) (z + 210) S = some (if t = u then nI 1 else nI 0, S) := by
  by_cases c : t.length = u.length
  · have c' : nI t.length = nI u.length := by rw [c]
    have := c_same_L hS h1 h2 c hn hb hb' t.length FU 0 (by omega) (by show t.length < 4000; omega) (fun k hk => by omega)
    rw [← this]
    simp only [F_X0_isSame, l_0, l_1, l_2, l_3, l_4, l_5, l_6, l_7, l_8, l_9, l_10, l_11, l_12, l_13, l_14, l_15, l_16, l_17, l_18, l_19, l_20, l_21, l_24, l_25, l_26, l_27, l_31, l_33, l_41, l_65, l_67, l_71, l_84, l_120, l_127, l_128, l_130, l_160, l_162, l_200, l_255, l_256, l_999, l_1000, l_8000, l_9999, l_10000, l_8001, l_m1, t_k0, t_g0, t_p0, t_z0, t_k1, t_g1, t_p1, t_z1, t_k3, t_g3, t_p3, t_z3, t_k187, t_g187, t_p187, t_z187, t_k210, t_g210, t_p210, t_z210, t_k212, t_g212, t_p212, t_z212, t_k214, t_g214, t_p214, t_z214, t_r0_0, t_r0_1, t_r0_2, t_r0_4, t_r0_5, t_r0_6, t_r0_7, t_r1_0, t_r3_0, t_r187_0, t_r187_1, t_r187_2, t_r187_3, t_r210_0, t_r212_0, t_r214_1, t_r214_5, t_r214_6, t_r214_8, t_r214_10, t_a2, t_s2, t_a209, t_s209, t_a211, t_s211, t_a213, t_s213, t_a215, t_s215, t_a216, t_s216, t_a217, t_s217, t_a218, t_s218, t_a219, t_s219, t_a4, t_s4, zSt_sI, zSt_sF, zSt_zI, zSt_sJ, zSt_sD, zBo_0, zBo_1, hS, h1.1, h2.1, c', bd2_some, bdx_inl, bdx_inr, bdc_inl, bdc_inr, obd_some, ↓reduceIte]
  · have c' : ¬ nI t.length = nI u.length := fun q => c ((nI_eq (by omega) (by omega)).mp q)
    rw [if_neg (fun q => c (by rw [q]))]
    simp only [F_X0_isSame, l_0, l_1, l_2, l_3, l_4, l_5, l_6, l_7, l_8, l_9, l_10, l_11, l_12, l_13, l_14, l_15, l_16, l_17, l_18, l_19, l_20, l_21, l_24, l_25, l_26, l_27, l_31, l_33, l_41, l_65, l_67, l_71, l_84, l_120, l_127, l_128, l_130, l_160, l_162, l_200, l_255, l_256, l_999, l_1000, l_8000, l_9999, l_10000, l_8001, l_m1, t_k0, t_g0, t_p0, t_z0, t_k1, t_g1, t_p1, t_z1, t_k3, t_g3, t_p3, t_z3, t_k187, t_g187, t_p187, t_z187, t_k210, t_g210, t_p210, t_z210, t_k212, t_g212, t_p212, t_z212, t_k214, t_g214, t_p214, t_z214, t_r0_0, t_r0_1, t_r0_2, t_r0_4, t_r0_5, t_r0_6, t_r0_7, t_r1_0, t_r3_0, t_r187_0, t_r187_1, t_r187_2, t_r187_3, t_r210_0, t_r212_0, t_r214_1, t_r214_5, t_r214_6, t_r214_8, t_r214_10, t_a2, t_s2, t_a209, t_s209, t_a211, t_s211, t_a213, t_s213, t_a215, t_s215, t_a216, t_s216, t_a217, t_s217, t_a218, t_s218, t_a219, t_s219, t_a4, t_s4, zSt_sI, zSt_sF, zSt_zI, zSt_sJ, zSt_sD, zBo_0, zBo_1, hS, h1.1, h2.1, c', bd2_some, bdx_inl, bdx_inr, bdc_inl, bdc_inr, obd_some, ↓reduceIte]
theorem c_typed (hs : xOk s) (h : zCl z s S) :
    match prse (xP s) (xF s) (xT s) with
    | some r => ∃ S', F_X5_takeTyped z S = some (if bts r = xT s then nI 1 else nI 0, S') ∧ zFr (z + 180) (z + 214) S S' ∧ zCR S' (z + 180) r
    | none => ∃ S', F_X5_takeTyped z S = some (nI 0, S') ∧ zFr (z + 180) (z + 214) S S' := by
  obtain ⟨hS, ⟨pp, hL⟩, hR, hD, hT⟩ := id h
  have M := c_takeV (z := z) (S := S) (t := xT s) hs.1 hs.2.2.2.2.2.1 hs.2.2.2.2.2.2 hs.2.1 hS hT hR
  cases e : prse (xP s) (xF s) (xT s) with
  | none =>
    rw [e] at M
    obtain ⟨S1, a1, a2⟩ := M
    refine ⟨S1, ?_, zFr_mono a2.1 (by omega) (by omega)⟩
    simp only [F_X5_takeTyped, l_0, l_1, l_2, l_3, l_4, l_5, l_6, l_7, l_8, l_9, l_10, l_11, l_12, l_13, l_14, l_15, l_16, l_17, l_18, l_19, l_20, l_21, l_24, l_25, l_26, l_27, l_31, l_33, l_41, l_65, l_67, l_71, l_84, l_120, l_127, l_128, l_130, l_160, l_162, l_200, l_255, l_256, l_999, l_1000, l_8000, l_9999, l_10000, l_8001, l_m1, t_k0, t_g0, t_p0, t_z0, t_k1, t_g1, t_p1, t_z1, t_k3, t_g3, t_p3, t_z3, t_k187, t_g187, t_p187, t_z187, t_k210, t_g210, t_p210, t_z210, t_k212, t_g212, t_p212, t_z212, t_k214, t_g214, t_p214, t_z214, t_r0_0, t_r0_1, t_r0_2, t_r0_4, t_r0_5, t_r0_6, t_r0_7, t_r1_0, t_r3_0, t_r187_0, t_r187_1, t_r187_2, t_r187_3, t_r210_0, t_r212_0, t_r214_1, t_r214_5, t_r214_6, t_r214_8, t_r214_10, t_a2, t_s2, t_a209, t_s209, t_a211, t_s211, t_a213, t_s213, t_a215, t_s215, t_a216, t_s216, t_a217, t_s217, t_a218, t_s218, t_a219, t_s219, t_a4, t_s4, zSt_sI, zSt_sF, zSt_zI, zSt_sJ, zSt_sD, zBo_0, zBo_1, hS, a1, bd2_some, bdx_inl, bdx_inr, bdc_inl, bdc_inr, obd_some, ↓reduceIte]
  | some r =>
    rw [e] at M
    obtain ⟨S1, a1, a2, a3⟩ := M
    have hS1 := zSt_Fr a2.1 hS
    have ok := prse_ok e
    have hw := aWr_of hs.1 ok
    obtain ⟨S2, b1, b2, b3⟩ := c_putVariant (o := z + 212) (yr_o hS1) (v_sc hS1) (by omega) a3 hw
    have hS2 := zSt_Fr b2 hS1
    have hT2 : zBy S2 (z + 210) (xT s) := by
      refine ⟨?_, fun j b hj => ?_⟩
      · rw [b2.2 _ (by omega), a2.2]; exact hT.1
      · rw [b2.2 _ (by omega), a2.1.2 _ (by omega)]; exact hT.2 j b hj
    have hl := bts_len hw.1 (fun i hi => (hw.2.1 i hi).1)
    have d1 := c_same hS2 b3 hT2 (by omega) hs.2.2.2.2.2.1 (bts_lt hw) hs.2.2.2.2.2.2
    refine ⟨S2, ?_, zFr_trans (zFr_mono a2.1 (by omega) (by omega)) (zFr_mono b2 (by omega) (by omega)), zCR_Fr b2 (by omega) a3⟩
    have rt : ∀ x, (if bts r = xT s then nI 1 else nI 0) = x → rtZ x S2 = some (x, S2) := by
      intro x hx
      rw [← hx]
      split
      · exact if_pos (Or.inr rfl)
      · exact if_pos (Or.inl rfl)
    simp only [F_X5_takeTyped, l_0, l_1, l_2, l_3, l_4, l_5, l_6, l_7, l_8, l_9, l_10, l_11, l_12, l_13, l_14, l_15, l_16, l_17, l_18, l_19, l_20, l_21, l_24, l_25, l_26, l_27, l_31, l_33, l_41, l_65, l_67, l_71, l_84, l_120, l_127, l_128, l_130, l_160, l_162, l_200, l_255, l_256, l_999, l_1000, l_8000, l_9999, l_10000, l_8001, l_m1, t_k0, t_g0, t_p0, t_z0, t_k1, t_g1, t_p1, t_z1, t_k3, t_g3, t_p3, t_z3, t_k187, t_g187, t_p187, t_z187, t_k210, t_g210, t_p210, t_z210, t_k212, t_g212, t_p212, t_z212, t_k214, t_g214, t_p214, t_z214, t_r0_0, t_r0_1, t_r0_2, t_r0_4, t_r0_5, t_r0_6, t_r0_7, t_r1_0, t_r3_0, t_r187_0, t_r187_1, t_r187_2, t_r187_3, t_r210_0, t_r212_0, t_r214_1, t_r214_5, t_r214_6, t_r214_8, t_r214_10, t_a2, t_s2, t_a209, t_s209, t_a211, t_s211, t_a213, t_s213, t_a215, t_s215, t_a216, t_s216, t_a217, t_s217, t_a218, t_s218, t_a219, t_s219, t_a4, t_s4, zSt_sI, zSt_sF, zSt_zI, zSt_sJ, zSt_sD, zBo_0, zBo_1, hS, hS1, hS2, a1, ne10, b1, d1, rt _ rfl, bd2_some, bdx_inl, bdx_inr, bdc_inl, bdc_inr, obd_some, ↓reduceIte]
theorem zCl_ty2 {t' : List Nat} (h : zCl z s S) (hl : (xL s).length ≤ 24) (hF : zFr (z + 180) (z + 214) S S') (ht : zTy z S' t') : zCl z (wTyped s t') S' := by
  obtain ⟨hS, ⟨pp, hL⟩, hRf, hD, hT⟩ := h
  refine ⟨zSt_Fr hF hS, ⟨pp, zLv_of ?_ ?_ hl hL⟩, zRf_of (hF.2 _ (by omega)) (hF.2 _ (by omega)) hRf, zDf_of ?_ ?_ hD, ht⟩
  · rw [zFr_R hF]
  · intro a h1 h2; exact hF.2 a (by omega)
  · rw [hF.2 z (by omega)]
  · intro a h1 h2; exact hF.2 a (by omega)
theorem zTy_0 : zTy z (sI S (z + 210) 1 (nI 0)) [] := ⟨by rw [mI_sI, if_pos ⟨rfl, rfl⟩]; rfl, fun i b h => by simp at h⟩
theorem C_read (hs : xOk s) (h : zCl z s S) : ∃ S', F_L_read z (z + 220) S = some ((o_read s).1, S') ∧ zCl z (o_read s).2.2 S' ∧ zCf z S S' ∧ ((o_read s).1 = nI 0 → mJ S' (z + 220) 0 = (o_read s).2.1.toInt64) := by
  obtain ⟨hS, ⟨pp, hL⟩, hR, hD, hT⟩ := id h
  have hl24 := hs.2.2.2.2.1
  have hz := hL.2.1
  by_cases c2 : (xL s).length = 24
  · have c2' : ¬ nI (xL s).length < nI 24 := nI_nlt (by omega) (by omega)
    rw [show o_read s = (nI 2, nI 0, wTyped s []) from if_pos c2]
    have F : zFr (z + 180) (z + 214) S (sI S (z + 210) 1 (nI 0)) := zFr_sI (by omega) (by omega)
    refine ⟨sI S (z + 210) 1 (nI 0), ?_, zCl_ty2 h hl24 F zTy_0, zCf_Fr hS F (by omega), fun e => absurd e n20⟩
    simp only [F_L_read, F_X5_read, F_X5_read_J23, F_X5_read_J24, F_X2_isFull, l_0, l_1, l_2, l_3, l_4, l_5, l_6, l_7, l_8, l_9, l_10, l_11, l_12, l_13, l_14, l_15, l_16, l_17, l_18, l_19, l_20, l_21, l_24, l_25, l_26, l_27, l_31, l_33, l_41, l_65, l_67, l_71, l_84, l_120, l_127, l_128, l_130, l_160, l_162, l_200, l_255, l_256, l_999, l_1000, l_8000, l_9999, l_10000, l_8001, l_m1, t_k0, t_g0, t_p0, t_z0, t_k1, t_g1, t_p1, t_z1, t_k3, t_g3, t_p3, t_z3, t_k187, t_g187, t_p187, t_z187, t_k210, t_g210, t_p210, t_z210, t_k212, t_g212, t_p212, t_z212, t_k214, t_g214, t_p214, t_z214, t_r0_0, t_r0_1, t_r0_2, t_r0_4, t_r0_5, t_r0_6, t_r0_7, t_r1_0, t_r3_0, t_r187_0, t_r187_1, t_r187_2, t_r187_3, t_r210_0, t_r212_0, t_r214_1, t_r214_5, t_r214_6, t_r214_8, t_r214_10, t_a2, t_s2, t_a209, t_s209, t_a211, t_s211, t_a213, t_s213, t_a215, t_s215, t_a216, t_s216, t_a217, t_s217, t_a218, t_s218, t_a219, t_s219, t_a4, t_s4, zSt_sI, zSt_sF, zSt_zI, zSt_sJ, zSt_sD, zBo_0, zBo_1, hS, bd2_some, bdx_inl, bdx_inr, bdc_inl, bdc_inr, obd_some, hz, c2', ne10, ↓reduceIte, String.reduceEq]
  have c2' : nI (xL s).length < nI 24 := nI_lt (by omega) (by omega)
  have M := c_typed hs h
  cases e : prse (xP s) (xF s) (xT s) with
  | none =>
    rw [e] at M
    obtain ⟨S1, a1, a2⟩ := M
    have hS1 := zSt_Fr a2 hS
    rw [show o_read s = (nI 1, nI 0, wTyped s []) from by unfold o_read; rw [if_neg c2, e]]
    have F : zFr (z + 180) (z + 214) S (sI S1 (z + 210) 1 (nI 0)) := zFr_trans a2 (zFr_sI (by omega) (by omega))
    refine ⟨sI S1 (z + 210) 1 (nI 0), ?_, zCl_ty2 h hl24 F zTy_0, zCf_Fr hS F (by omega), fun e => absurd e ne10⟩
    simp only [F_L_read, F_X5_read, F_X5_read_J23, F_X5_read_J24, F_X2_isFull, l_0, l_1, l_2, l_3, l_4, l_5, l_6, l_7, l_8, l_9, l_10, l_11, l_12, l_13, l_14, l_15, l_16, l_17, l_18, l_19, l_20, l_21, l_24, l_25, l_26, l_27, l_31, l_33, l_41, l_65, l_67, l_71, l_84, l_120, l_127, l_128, l_130, l_160, l_162, l_200, l_255, l_256, l_999, l_1000, l_8000, l_9999, l_10000, l_8001, l_m1, t_k0, t_g0, t_p0, t_z0, t_k1, t_g1, t_p1, t_z1, t_k3, t_g3, t_p3, t_z3, t_k187, t_g187, t_p187, t_z187, t_k210, t_g210, t_p210, t_z210, t_k212, t_g212, t_p212, t_z212, t_k214, t_g214, t_p214, t_z214, t_r0_0, t_r0_1, t_r0_2, t_r0_4, t_r0_5, t_r0_6, t_r0_7, t_r1_0, t_r3_0, t_r187_0, t_r187_1, t_r187_2, t_r187_3, t_r210_0, t_r212_0, t_r214_1, t_r214_5, t_r214_6, t_r214_8, t_r214_10, t_a2, t_s2, t_a209, t_s209, t_a211, t_s211, t_a213, t_s213, t_a215, t_s215, t_a216, t_s216, t_a217, t_s217, t_a218, t_s218, t_a219, t_s219, t_a4, t_s4, zSt_sI, zSt_sF, zSt_zI, zSt_sJ, zSt_sD, zBo_0, zBo_1, hS, hS1, bd2_some, bdx_inl, bdx_inr, bdc_inl, bdc_inr, obd_some, hz, c2', a1, ↓reduceIte, String.reduceEq]
  | some r =>
    rw [e] at M
    obtain ⟨S1, a1, a2, a3⟩ := M
    have hS1 := zSt_Fr a2 hS
    have F : zFr (z + 180) (z + 214) S (sI S1 (z + 210) 1 (nI 0)) := zFr_trans a2 (zFr_sI (by omega) (by omega))
    by_cases c3 : bts r = xT s
    · rw [if_pos c3] at a1
      rw [show o_read s = (nI 0, nI (ipos (xL s) (aP r)), wTyped (wList s (insR (xL s) r)) []) from by unfold o_read; rw [if_neg c2, e]; exact if_pos c3]
      have ok := prse_ok e
      have hcl := zCl_ty2 h hl24 F zTy_0
      obtain ⟨hS2, ⟨pq, hL2⟩, -⟩ := id hcl
      have o2 := ok31 hs.1 ok
      obtain ⟨S3, p3, q1, q2, q3⟩ := c_insert (w := z + 180) (r := r) (ls := xL s) hS2 hL2 (by omega) (fun T hT => v_sc hT) (by omega) (zCR_of (S := S1) (v := z + 180) (fun t ht => by rw [mI_sI_r, if_neg (by omega)]) a3) o2.2.2.1 o2.2.2.2 o2.2.1 (fun t ht => (ok31 hs.1 (hs.2.2.2.1 t ht)).2.1)
      have hS3 := q2.1
      refine ⟨sJ S3 (z + 220) 0 (nI (ipos (xL s) (aP r))).toInt64, ?_, zCl_sJ ?_, zCf_sJ ⟨hS3, fun a ha => ?_⟩, fun _ => mJ_sJ⟩
      · simp only [F_L_read, F_X5_read, F_X5_read_J23, F_X5_read_J24, F_X2_isFull, l_0, l_1, l_2, l_3, l_4, l_5, l_6, l_7, l_8, l_9, l_10, l_11, l_12, l_13, l_14, l_15, l_16, l_17, l_18, l_19, l_20, l_21, l_24, l_25, l_26, l_27, l_31, l_33, l_41, l_65, l_67, l_71, l_84, l_120, l_127, l_128, l_130, l_160, l_162, l_200, l_255, l_256, l_999, l_1000, l_8000, l_9999, l_10000, l_8001, l_m1, t_k0, t_g0, t_p0, t_z0, t_k1, t_g1, t_p1, t_z1, t_k3, t_g3, t_p3, t_z3, t_k187, t_g187, t_p187, t_z187, t_k210, t_g210, t_p210, t_z210, t_k212, t_g212, t_p212, t_z212, t_k214, t_g214, t_p214, t_z214, t_r0_0, t_r0_1, t_r0_2, t_r0_4, t_r0_5, t_r0_6, t_r0_7, t_r1_0, t_r3_0, t_r187_0, t_r187_1, t_r187_2, t_r187_3, t_r210_0, t_r212_0, t_r214_1, t_r214_5, t_r214_6, t_r214_8, t_r214_10, t_a2, t_s2, t_a209, t_s209, t_a211, t_s211, t_a213, t_s213, t_a215, t_s215, t_a216, t_s216, t_a217, t_s217, t_a218, t_s218, t_a219, t_s219, t_a4, t_s4, zSt_sI, zSt_sF, zSt_zI, zSt_sJ, zSt_sD, zBo_0, zBo_1, hS, hS1, hS2, bd2_some, bdx_inl, bdx_inr, bdc_inl, bdc_inr, obd_some, hz, c2', a1, ne10, q1, t_sJ hS3, ↓reduceIte]
      · exact zCl_list (s := wTyped s []) hcl hS3 ⟨p3, q3⟩ (fun a ha => q2.2.1 a (by omega))
      · rw [q2.2.1 a (by omega), mI_sI_r, if_neg (by omega), a2.2 a (by omega)]
    · rw [if_neg c3] at a1
      rw [show o_read s = (nI 1, nI 0, wTyped s []) from by unfold o_read; rw [if_neg c2, e]; exact if_neg c3]
      refine ⟨sI S1 (z + 210) 1 (nI 0), ?_, zCl_ty2 h hl24 F zTy_0, zCf_Fr hS F (by omega), fun e => absurd e ne10⟩
      simp only [F_L_read, F_X5_read, F_X5_read_J23, F_X5_read_J24, F_X2_isFull, l_0, l_1, l_2, l_3, l_4, l_5, l_6, l_7, l_8, l_9, l_10, l_11, l_12, l_13, l_14, l_15, l_16, l_17, l_18, l_19, l_20, l_21, l_24, l_25, l_26, l_27, l_31, l_33, l_41, l_65, l_67, l_71, l_84, l_120, l_127, l_128, l_130, l_160, l_162, l_200, l_255, l_256, l_999, l_1000, l_8000, l_9999, l_10000, l_8001, l_m1, t_k0, t_g0, t_p0, t_z0, t_k1, t_g1, t_p1, t_z1, t_k3, t_g3, t_p3, t_z3, t_k187, t_g187, t_p187, t_z187, t_k210, t_g210, t_p210, t_z210, t_k212, t_g212, t_p212, t_z212, t_k214, t_g214, t_p214, t_z214, t_r0_0, t_r0_1, t_r0_2, t_r0_4, t_r0_5, t_r0_6, t_r0_7, t_r1_0, t_r3_0, t_r187_0, t_r187_1, t_r187_2, t_r187_3, t_r210_0, t_r212_0, t_r214_1, t_r214_5, t_r214_6, t_r214_8, t_r214_10, t_a2, t_s2, t_a209, t_s209, t_a211, t_s211, t_a213, t_s213, t_a215, t_s215, t_a216, t_s216, t_a217, t_s217, t_a218, t_s218, t_a219, t_s219, t_a4, t_s4, zSt_sI, zSt_sF, zSt_zI, zSt_sJ, zSt_sD, zBo_0, zBo_1, hS, hS1, bd2_some, bdx_inl, bdx_inr, bdc_inl, bdc_inr, obd_some, hz, c2', a1, ↓reduceIte, String.reduceEq]
end C17
