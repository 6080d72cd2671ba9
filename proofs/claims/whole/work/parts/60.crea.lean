set_option maxRecDepth 20000
/-! The class reads. -/
/-- the typed bytes are read up to i -/
def zRd (z : Nat) (t : List Nat) (S : Mem) (i : Nat) : Prop := zSt z S ∧ zBy S (z + 210) t ∧ mI S (z + 210) 2 = nI (min i t.length)
def zRf2 (z : Nat) (S S' : Mem) : Prop := zFr (z + 180) (z + 211) S S' ∧ mI S' (z + 210) 1 = mI S (z + 210) 1
/-- only the place of reading differs -/
def zTk (z : Nat) (S S' : Mem) : Prop := zFr (z + 210) (z + 211) S S' ∧ mI S' (z + 210) 1 = mI S (z + 210) 1
section C13
variable {S S' S1 S2 : Mem} {z v n a lo hi o k i : Nat} {r : Rc} {s : As} {t : List Nat}
theorem zTk_trans (h : zTk z S S1) (h' : zTk z S1 S2) : zTk z S S2 := ⟨zFr_trans h.1 h'.1, h'.2.trans h.2⟩
theorem zTk_rf (h : zTk z S S1) : zRf2 z S S1 := ⟨zFr_mono h.1 (by omega) (by omega), h.2⟩
theorem zRf2_trans (h : zRf2 z S S1) (h' : zRf2 z S1 S2) : zRf2 z S S2 := ⟨zFr_trans h.1 h'.1, h'.2.trans h.2⟩
theorem zRf2_sI {a k : Nat} {x : Int32} (h1 : z + 180 ≤ a) (h2 : a < z + 187) : zRf2 z S (sI S a k x) := ⟨zFr_sI h1 (by omega), by rw [mI_sI, if_neg (by omega)]⟩
theorem zRf2_Fr (h : zFr (z + 180) (z + 187) S S1) : zRf2 z S S1 := ⟨zFr_mono h (by omega) (by omega), by rw [h.2 _ (by omega)]⟩
theorem zRd_Fr (h : zFr (z + 180) (z + 187) S S1) (hr : zRd z t S i) : zRd z t S1 i := by
  refine ⟨zSt_Fr h hr.1, zBy_Fr h (by omega) hr.2.1, ?_⟩
  rw [h.2 _ (by omega)]; exact hr.2.2
theorem c_take (ht : t.length ≤ 120) (hr : zRd z t S i) : ∃ S', F_X0_take (z + 210) S = some (nI (pb t i), S') ∧ zTk z S S' ∧ zRd z t S' (i + 1) := by
  obtain ⟨hS, hB, hP⟩ := hr
  by_cases c : i < t.length
  · have e1 : min i t.length = i := by omega
    rw [e1] at hP
    have c1 : nI i < nI t.length := nI_lt c (by omega)
    have i120 : i < 120 := by omega
    have e2 : nI (i + 1) - nI 1 = nI i := nI_sub1 (by omega)
    have e3 : mI S (z + 211) i = nI (pb t i) := hB.2 i _ (by unfold pb; rw [List.getD_eq_getElem?_getD, List.getElem?_eq_getElem c]; rfl)
    have n1 : (z + 211 = z + 210) = False := eq_false (by omega)
    refine ⟨sI S (z + 210) 2 (nI (i + 1)), ?_, ⟨zFr_sI (by omega) (by omega), by rw [mI_sI, if_neg (by omega)]⟩, by rw [zSt_sI]; exact hS, ⟨?_, fun j b hj => ?_⟩, ?_⟩
    · simp only [F_X0_take, l_0, l_1, l_2, l_3, l_4, l_5, l_6, l_7, l_8, l_9, l_10, l_11, l_12, l_13, l_14, l_15, l_16, l_17, l_18, l_19, l_20, l_21, l_24, l_25, l_26, l_27, l_31, l_33, l_41, l_65, l_67, l_71, l_84, l_120, l_127, l_128, l_130, l_160, l_162, l_200, l_255, l_256, l_999, l_1000, l_8000, l_9999, l_10000, l_8001, l_m1, t_k0, t_g0, t_p0, t_z0, t_k1, t_g1, t_p1, t_z1, t_k3, t_g3, t_p3, t_z3, t_k187, t_g187, t_p187, t_z187, t_k210, t_g210, t_p210, t_z210, t_k212, t_g212, t_p212, t_z212, t_k214, t_g214, t_p214, t_z214, t_r0_0, t_r0_1, t_r0_2, t_r0_4, t_r0_5, t_r0_6, t_r0_7, t_r1_0, t_r3_0, t_r187_0, t_r187_1, t_r187_2, t_r187_3, t_r210_0, t_r212_0, t_r214_1, t_r214_5, t_r214_6, t_r214_8, t_r214_10, t_a2, t_s2, t_a209, t_s209, t_a211, t_s211, t_a213, t_s213, t_a215, t_s215, t_a216, t_s216, t_a217, t_s217, t_a218, t_s218, t_a219, t_s219, t_a4, t_s4, zSt_sI, zSt_sF, zSt_zI, zSt_sJ, zSt_sD, zBo_0, zBo_1, hS, hP, hB.1, c1, bd2_some, bdx_inl, bdx_inr, bdc_inl, bdc_inr, obd_some, ↓reduceIte, nI_add, mI_sI, and_self, e2, i120, n1, false_and, e3]
    · rw [mI_sI, if_neg (by omega)]; exact hB.1
    · rw [mI_sI, if_neg (by omega)]; exact hB.2 j b hj
    · rw [mI_sI, if_pos ⟨rfl, rfl⟩]; congr 1; omega
  · have e1 : min i t.length = t.length := by omega
    rw [e1] at hP
    have c1 : ¬ nI t.length < nI t.length := nI_nlt (Nat.le_refl _) (by omega)
    have e3 : pb t i = 0 := by unfold pb; rw [List.getD_eq_getElem?_getD, List.getElem?_eq_none (by omega)]; rfl
    refine ⟨S, ?_, ⟨zFr_refl, rfl⟩, hS, hB, ?_⟩
    · rw [e3]
      simp only [F_X0_take, l_0, l_1, l_2, l_3, l_4, l_5, l_6, l_7, l_8, l_9, l_10, l_11, l_12, l_13, l_14, l_15, l_16, l_17, l_18, l_19, l_20, l_21, l_24, l_25, l_26, l_27, l_31, l_33, l_41, l_65, l_67, l_71, l_84, l_120, l_127, l_128, l_130, l_160, l_162, l_200, l_255, l_256, l_999, l_1000, l_8000, l_9999, l_10000, l_8001, l_m1, t_k0, t_g0, t_p0, t_z0, t_k1, t_g1, t_p1, t_z1, t_k3, t_g3, t_p3, t_z3, t_k187, t_g187, t_p187, t_z187, t_k210, t_g210, t_p210, t_z210, t_k212, t_g212, t_p212, t_z212, t_k214, t_g214, t_p214, t_z214, t_r0_0, t_r0_1, t_r0_2, t_r0_4, t_r0_5, t_r0_6, t_r0_7, t_r1_0, t_r3_0, t_r187_0, t_r187_1, t_r187_2, t_r187_3, t_r210_0, t_r212_0, t_r214_1, t_r214_5, t_r214_6, t_r214_8, t_r214_10, t_a2, t_s2, t_a209, t_s209, t_a211, t_s211, t_a213, t_s213, t_a215, t_s215, t_a216, t_s216, t_a217, t_s217, t_a218, t_s218, t_a219, t_s219, t_a4, t_s4, zSt_sI, zSt_sF, zSt_zI, zSt_sJ, zSt_sD, zBo_0, zBo_1, hS, hP, hB.1, c1, bd2_some, bdx_inl, bdx_inr, bdc_inl, bdc_inr, obd_some, ↓reduceIte]
    · rw [hP]; congr 1; omega
theorem c_take2 (ht : t.length ≤ 120) (hr : zRd z t S i) : ∃ S', F_X0_takeNumber (z + 210) (nI 2) S = some (nI (p2 t i), S') ∧ zTk z S S' ∧ zRd z t S' (i + 2) := by
  obtain ⟨S1, a1, a2, a3⟩ := c_take ht hr
  obtain ⟨S2, b1, b2, b3⟩ := c_take ht a3
  have hS := hr.1
  have hS1 := a3.1
  refine ⟨S2, ?_, zTk_trans a2 b2, b3⟩
  simp only [F_X0_takeNumber, l_0, l_1, l_2, l_3, l_4, l_5, l_6, l_7, l_8, l_9, l_10, l_11, l_12, l_13, l_14, l_15, l_16, l_17, l_18, l_19, l_20, l_21, l_24, l_25, l_26, l_27, l_31, l_33, l_41, l_65, l_67, l_71, l_84, l_120, l_127, l_128, l_130, l_160, l_162, l_200, l_255, l_256, l_999, l_1000, l_8000, l_9999, l_10000, l_8001, l_m1, t_k0, t_g0, t_p0, t_z0, t_k1, t_g1, t_p1, t_z1, t_k3, t_g3, t_p3, t_z3, t_k187, t_g187, t_p187, t_z187, t_k210, t_g210, t_p210, t_z210, t_k212, t_g212, t_p212, t_z212, t_k214, t_g214, t_p214, t_z214, t_r0_0, t_r0_1, t_r0_2, t_r0_4, t_r0_5, t_r0_6, t_r0_7, t_r1_0, t_r3_0, t_r187_0, t_r187_1, t_r187_2, t_r187_3, t_r210_0, t_r212_0, t_r214_1, t_r214_5, t_r214_6, t_r214_8, t_r214_10, t_a2, t_s2, t_a209, t_s209, t_a211, t_s211, t_a213, t_s213, t_a215, t_s215, t_a216, t_s216, t_a217, t_s217, t_a218, t_s218, t_a219, t_s219, t_a4, t_s4, zSt_sI, zSt_sF, zSt_zI, zSt_sJ, zSt_sD, zBo_0, zBo_1, hS, hS1, a1, b1, bd2_some, bdx_inl, bdx_inr, bdc_inl, bdc_inr, obd_some, ↓reduceIte, nI_mul, nI_add, p2]
theorem c_takeW {wd : Nat} (ht : t.length ≤ 120) (hw : wd < 16) (hr : zRd z t S i) : ∃ S', F_X0_takeNumber (z + 210) (nI wd) S = some (nI (if wd = 2 then p2 t i else pb t i), S') ∧ zTk z S S' ∧ zRd z t S' (i + if wd = 2 then 2 else 1) := by
  by_cases c : wd = 2
  · subst c
    exact c_take2 ht hr
  · obtain ⟨S1, a1, a2, a3⟩ := c_take ht hr
    have hS := hr.1
    have c' : ¬ nI wd = nI 2 := fun q => c ((nI_eq (by omega) (by omega)).mp q)
    rw [if_neg c, if_neg c]
    refine ⟨S1, ?_, a2, a3⟩
    simp only [F_X0_takeNumber, l_0, l_1, l_2, l_3, l_4, l_5, l_6, l_7, l_8, l_9, l_10, l_11, l_12, l_13, l_14, l_15, l_16, l_17, l_18, l_19, l_20, l_21, l_24, l_25, l_26, l_27, l_31, l_33, l_41, l_65, l_67, l_71, l_84, l_120, l_127, l_128, l_130, l_160, l_162, l_200, l_255, l_256, l_999, l_1000, l_8000, l_9999, l_10000, l_8001, l_m1, t_k0, t_g0, t_p0, t_z0, t_k1, t_g1, t_p1, t_z1, t_k3, t_g3, t_p3, t_z3, t_k187, t_g187, t_p187, t_z187, t_k210, t_g210, t_p210, t_z210, t_k212, t_g212, t_p212, t_z212, t_k214, t_g214, t_p214, t_z214, t_r0_0, t_r0_1, t_r0_2, t_r0_4, t_r0_5, t_r0_6, t_r0_7, t_r1_0, t_r3_0, t_r187_0, t_r187_1, t_r187_2, t_r187_3, t_r210_0, t_r212_0, t_r214_1, t_r214_5, t_r214_6, t_r214_8, t_r214_10, t_a2, t_s2, t_a209, t_s209, t_a211, t_s211, t_a213, t_s213, t_a215, t_s215, t_a216, t_s216, t_a217, t_s217, t_a218, t_s218, t_a219, t_s219, t_a4, t_s4, zSt_sI, zSt_sF, zSt_zI, zSt_sJ, zSt_sD, zBo_0, zBo_1, hS, a1, c', bd2_some, bdx_inl, bdx_inr, bdc_inl, bdc_inr, obd_some, ↓reduceIte]
theorem c_let1 {x b fu : Nat} {K4 : Nat → Int32 → Int32 → Int32 → Mem → Option (Int32 × Mem)} {v0 : Nat} {v1 v2 v3 v5 : Int32} (hx : x < 256) (hb : b < 4) : F_X0_takeBases_L21 K4 (fu + 1) v0 v1 v2 v3 (nI x) v5 (nI b) S = F_X0_takeBases_L21 K4 fu v0 v1 v2 v3 (nI x) (if ltr b = x then nI b else v5) (nI (b + 1)) S := by
  have c1 : ¬ (4 : Int32) ≤ nI b := nI_ge (a := b) (b := 4) (by omega) (by omega)
  have p1 := ptL_n b hb
  have l4 : ltr b < 256 := by
    rcases (show b = 0 ∨ b = 1 ∨ b = 2 ∨ b = 3 by omega) with e | e | e | e <;> subst e <;> decide
  rw [F_X0_takeBases_L21, if_neg c1, p1, obd_some]
  by_cases c : ltr b = x
  · rw [if_pos c, if_pos (by rw [c])]
    unfold F_X0_takeBases_J45
    rw [show nI b + 1 = nI (b + 1) from nI_1 b]
  · rw [if_neg c, if_neg (fun q => c ((nI_eq (by omega) (by omega)).mp q))]
    unfold F_X0_takeBases_J45
    rw [show nI b + 1 = nI (b + 1) from nI_1 b]
theorem c_letter {x : Nat} {K4 : Nat → Int32 → Int32 → Int32 → Mem → Option (Int32 × Mem)} {v0 : Nat} {v1 v2 v3 : Int32} (hx : x < 256) : F_X0_takeBases_L21 K4 FU v0 v1 v2 v3 (nI x) (nI 0) (nI 1) S = K4 v0 v1 ((v2 <<< (nI 2 &&& nI 31)) ||| nI (pLet x)) (v3 + nI 1) S := by
  have e : (if ltr 3 = x then nI 3 else if ltr 2 = x then nI 2 else if ltr 1 = x then nI 1 else nI 0) = nI (pLet x) := by
    have l1 : ltr 1 = 67 := rfl
    have l2 : ltr 2 = 71 := rfl
    have l3 : ltr 3 = 84 := rfl
    rw [l1, l2, l3]
    unfold pLet
    by_cases c1 : x = 67
    · subst c1; rfl
    · by_cases c2 : x = 71
      · subst c2; rfl
      · by_cases c3 : x = 84
        · subst c3; rfl
        · rw [if_neg (by omega), if_neg (by omega), if_neg (by omega), if_neg c1, if_neg c2, if_neg c3]
  show F_X0_takeBases_L21 K4 (3996 + 1 + 1 + 1 + 1) v0 v1 v2 v3 (nI x) (nI 0) (nI 1) S = _
  rw [c_let1 hx (by omega), c_let1 hx (by omega), c_let1 hx (by omega), F_X0_takeBases_L21, if_pos (show (4 : Int32) ≤ nI (1 + 1 + 1 + 1) by decide), e]
  rfl
theorem pLet_lt (x : Nat) : pLet x < 4 := by
  unfold pLet
  split
  · omega
  · split
    · omega
    · split <;> omega
theorem pBs_lt (t : List Nat) (i : Nat) : ∀ l, pBs t i l < 4 ^ l := by
  intro l
  induction l with
  | zero => simp [pBs]
  | succ l ih =>
    have := pLet_lt (pb t (i + l))
    rw [pBs, p4_s]
    omega
theorem pb_lt (hb : ∀ b, b ∈ t → b < 256) (i : Nat) : pb t i < 256 := by
  unfold pb
  rw [List.getD_eq_getElem?_getD]
  cases e : t[i]? with
  | none => decide
  | some b => exact hb b (List.mem_of_getElem? e)
theorem c_bases_L {ln : Nat} (ht : t.length ≤ 120) (hb : ∀ b, b ∈ t → b < 256) (hl : ln ≤ 8) : ∀ (m fu j : Nat) (S : Mem), zRd z t S (i + j) → j + m = ln → m < fu →
    ∃ S', F_X0_takeBases_L4 fu (z + 210) (nI ln) (nI (pBs t i j)) (nI j) S = some (nI (pBs t i ln), S') ∧ zTk z S S' ∧ zRd z t S' (i + ln) := by
  intro m
  induction m with
  | zero =>
    intro fu j S hr hj hf
    obtain ⟨fu, rfl⟩ : ∃ f, fu = f + 1 := ⟨fu - 1, by omega⟩
    have c1 : nI ln ≤ nI j := nI_le (by omega) (by omega)
    have e : j = ln := by omega
    subst e
    refine ⟨S, ?_, ⟨zFr_refl, rfl⟩, hr⟩
    simp only [F_X0_takeBases_L4, c1, ↓reduceIte]
  | succ m ih =>
    intro fu j S hr hj hf
    obtain ⟨fu, rfl⟩ : ∃ f, fu = f + 1 := ⟨fu - 1, by omega⟩
    have c1 : ¬ nI ln ≤ nI j := nI_ge (by omega) (by omega)
    obtain ⟨S1, a1, a2, a3⟩ := c_take ht hr
    obtain ⟨S2, b1, b2, b3⟩ := ih fu (j + 1) S1 a3 (by omega) (by omega)
    have hS := hr.1
    refine ⟨S2, ?_, zTk_trans a2 b2, b3⟩
    have e3 : (nI (pBs t i j) <<< (nI 2 &&& nI 31)) ||| nI (pLet (pb t (i + j))) = nI (pBs t i (j + 1)) := by
      rw [b_31 (by omega), b_shl (by omega), b_orAdd (show pLet (pb t (i + j)) < 2 ^ 2 from pLet_lt _)]
      congr 1
      rw [pBs]
      omega
    have e4 := c_letter (x := pb t (i + j)) (K4 := F_X0_takeBases_L4 fu) (v0 := z + 210) (v1 := nI ln) (v2 := nI (pBs t i j)) (v3 := nI j) (S := S1) (pb_lt hb _)
    rw [e3, nI_add] at e4
    rw [F_X0_takeBases_L4, if_neg c1, t_k210 hS, obd_some, a1, bd2_some]
    show F_X0_takeBases_L21 (F_X0_takeBases_L4 fu) FU (z + 210) (nI ln) (nI (pBs t i j)) (nI j) (nI (pb t (i + j))) (nI 0) (nI 1) S1 = _
    rw [e4]
    exact b1
theorem c_bases {ln : Nat} (ht : t.length ≤ 120) (hb : ∀ b, b ∈ t → b < 256) (hl : ln ≤ 8) (hr : zRd z t S i) : ∃ S', F_X0_takeBases (z + 210) (nI ln) S = some (nI (pBs t i ln), S') ∧ zTk z S S' ∧ zRd z t S' (i + ln) :=
  c_bases_L (i := i) ht hb hl ln FU 0 S hr (by omega) (by show ln < 4000; omega)
/-- the alleles that are read so far -/
def zRa (z : Nat) (S : Mem) (a : Nat) (L B : Nat → Nat) : Prop := mI S (z + 180) 2 = nI a ∧ ∀ j, j < a → mI S (z + 180 + 1) j = nI (B j) ∧ mI S (z + 180 + 2) j = nI (L j) ∧ B j < 65536 ∧ 1 ≤ L j ∧ L j ≤ 8
theorem zRa_Tk {L B : Nat → Nat} (h : zTk z S S1) (ha : zRa z S a L B) : zRa z S1 a L B := by
  unfold zRa
  rw [h.1.2 (z + 180) (by omega), h.1.2 (z + 180 + 1) (by omega), h.1.2 (z + 180 + 2) (by omega)]
  exact ha
theorem c_al_L {p q : Nat} {rf : Nat → Nat} (ht : t.length ≤ 120) (hb : ∀ b, b ∈ t → b < 256) (h4 : ∀ i, rf i < 4) (hp : p ≤ 160) (hn2 : 2 ≤ n) (hn : n ≤ 4) (hq : q < 65536) : ∀ (m fu a i : Nat) (L B : Nat → Nat) (S : Mem), zRd z t S i → zRa z S a L B → zRf z S p rf → mI S (z + 180) 0 = nI q → a + m = n → m < fu →
    (∀ i' L' B', pAl t m a i L B = some (i', L', B') → (1 ≤ q ∧ q + L' 0 ≤ p + 1 ∧ B' 0 = rn rf q (L' 0)) → ∃ S', F_X0_takeAlleles_L20 fu (z + 210) (z + 180) (z + 1) (nI n) (nI a) S = some (nI 1, S') ∧ zRf2 z S S' ∧ zRd z t S' i' ∧ zRa z S' n L' B' ∧ mI S' (z + 180) 0 = mI S (z + 180) 0 ∧ mI S' (z + 180) 1 = mI S (z + 180) 1 ∧ ∀ u, 4 ≤ u → u < 7 → mI S' (z + 180 + u) = mI S (z + 180 + u)) ∧
    ((pAl t m a i L B = none ∨ ∃ i' L' B', pAl t m a i L B = some (i', L', B') ∧ ¬ (1 ≤ q ∧ q + L' 0 ≤ p + 1 ∧ B' 0 = rn rf q (L' 0))) → ∃ S', F_X0_takeAlleles_L20 fu (z + 210) (z + 180) (z + 1) (nI n) (nI a) S = some (nI 0, S') ∧ zRf2 z S S') := by
  intro m
  induction m with
  | zero =>
    intro fu a i L B S hr ha hR hq0 hj hf
    obtain ⟨fu, rfl⟩ : ∃ f, fu = f + 1 := ⟨fu - 1, by omega⟩
    have c1 : nI n ≤ nI a := nI_le (by omega) (by omega)
    have e : a = n := by omega
    subst e
    have hS := hr.1
    have hv := v_sc hS
    obtain ⟨g1, g2, g3, g4, g5⟩ := ha.2 0 (by omega)
    have e1 := v_a2 hv (show 0 < 4 by omega)
    have e2 := v_a1 hv (show 0 < 4 by omega)
    have hc := c_covers (x := nI q) (y := nI (L 0)) hS
    rw [hR.1] at hc
    have cv : (nI q < nI 1 ∨ nI p - nI (L 0) + nI 1 < nI q) ↔ ¬ (1 ≤ q ∧ q + L 0 ≤ p + 1) := by
      rw [lt_sub1 hp (by omega) (by omega), nI_ltI (by omega) (by omega)]
      omega
    refine ⟨fun i' L' B' e hh => ?_, fun hh => ?_⟩
    · cases e
      rw [if_neg (fun w => cv.mp w ⟨hh.1, hh.2.1⟩)] at hc
      have hpk := c_packed hS hR h4 hp hh.1 hh.2.1 g5
      refine ⟨S, ?_, ⟨zFr_refl, rfl⟩, hr, ha, rfl, rfl, fun _ _ _ => rfl⟩
      rw [← hh.2.2] at hpk
      simp only [F_X0_takeAlleles_L20, l_0, l_1, l_2, l_3, l_4, l_5, l_6, l_7, l_8, l_9, l_10, l_11, l_12, l_13, l_14, l_15, l_16, l_17, l_18, l_19, l_20, l_21, l_24, l_25, l_26, l_27, l_31, l_33, l_41, l_65, l_67, l_71, l_84, l_120, l_127, l_128, l_130, l_160, l_162, l_200, l_255, l_256, l_999, l_1000, l_8000, l_9999, l_10000, l_8001, l_m1, t_k0, t_g0, t_p0, t_z0, t_k1, t_g1, t_p1, t_z1, t_k3, t_g3, t_p3, t_z3, t_k187, t_g187, t_p187, t_z187, t_k210, t_g210, t_p210, t_z210, t_k212, t_g212, t_p212, t_z212, t_k214, t_g214, t_p214, t_z214, t_r0_0, t_r0_1, t_r0_2, t_r0_4, t_r0_5, t_r0_6, t_r0_7, t_r1_0, t_r3_0, t_r187_0, t_r187_1, t_r187_2, t_r187_3, t_r210_0, t_r212_0, t_r214_1, t_r214_5, t_r214_6, t_r214_8, t_r214_10, t_a2, t_s2, t_a209, t_s209, t_a211, t_s211, t_a213, t_s213, t_a215, t_s215, t_a216, t_s216, t_a217, t_s217, t_a218, t_s218, t_a219, t_s219, t_a4, t_s4, zSt_sI, zSt_sF, zSt_zI, zSt_sJ, zSt_sD, zBo_0, zBo_1, hS, c1, v_gI hv, v_g4 hv, v_g3 hv, hq0, e1, e2, g1, g2, hc, hpk, ne10, bd2_some, bdx_inl, bdx_inr, bdc_inl, bdc_inr, obd_some, ↓reduceIte]
    · rcases hh with hh | ⟨i', L', B', e, hh⟩
      · cases hh
      · cases e
        refine ⟨S, ?_, zFr_refl, rfl⟩
        by_cases c2 : 1 ≤ q ∧ q + L 0 ≤ p + 1
        · rw [if_neg (fun w => cv.mp w c2)] at hc
          have hpk := c_packed hS hR h4 hp c2.1 c2.2 g5
          have rlt := rn_lt h4 q (L 0)
          have := p4_8 g5
          have c3 : ¬ nI (rn rf q (L 0)) = nI (B 0) := fun w => hh ⟨c2.1, c2.2, ((nI_eq (by omega) (by omega)).mp w).symm⟩
          simp only [F_X0_takeAlleles_L20, l_0, l_1, l_2, l_3, l_4, l_5, l_6, l_7, l_8, l_9, l_10, l_11, l_12, l_13, l_14, l_15, l_16, l_17, l_18, l_19, l_20, l_21, l_24, l_25, l_26, l_27, l_31, l_33, l_41, l_65, l_67, l_71, l_84, l_120, l_127, l_128, l_130, l_160, l_162, l_200, l_255, l_256, l_999, l_1000, l_8000, l_9999, l_10000, l_8001, l_m1, t_k0, t_g0, t_p0, t_z0, t_k1, t_g1, t_p1, t_z1, t_k3, t_g3, t_p3, t_z3, t_k187, t_g187, t_p187, t_z187, t_k210, t_g210, t_p210, t_z210, t_k212, t_g212, t_p212, t_z212, t_k214, t_g214, t_p214, t_z214, t_r0_0, t_r0_1, t_r0_2, t_r0_4, t_r0_5, t_r0_6, t_r0_7, t_r1_0, t_r3_0, t_r187_0, t_r187_1, t_r187_2, t_r187_3, t_r210_0, t_r212_0, t_r214_1, t_r214_5, t_r214_6, t_r214_8, t_r214_10, t_a2, t_s2, t_a209, t_s209, t_a211, t_s211, t_a213, t_s213, t_a215, t_s215, t_a216, t_s216, t_a217, t_s217, t_a218, t_s218, t_a219, t_s219, t_a4, t_s4, zSt_sI, zSt_sF, zSt_zI, zSt_sJ, zSt_sD, zBo_0, zBo_1, hS, c1, v_gI hv, v_g4 hv, v_g3 hv, hq0, e1, e2, g1, g2, hc, hpk, c3, ne10, bd2_some, bdx_inl, bdx_inr, bdc_inl, bdc_inr, obd_some, ↓reduceIte]
        · rw [if_pos (cv.mpr c2)] at hc
          simp only [F_X0_takeAlleles_L20, l_0, l_1, l_2, l_3, l_4, l_5, l_6, l_7, l_8, l_9, l_10, l_11, l_12, l_13, l_14, l_15, l_16, l_17, l_18, l_19, l_20, l_21, l_24, l_25, l_26, l_27, l_31, l_33, l_41, l_65, l_67, l_71, l_84, l_120, l_127, l_128, l_130, l_160, l_162, l_200, l_255, l_256, l_999, l_1000, l_8000, l_9999, l_10000, l_8001, l_m1, t_k0, t_g0, t_p0, t_z0, t_k1, t_g1, t_p1, t_z1, t_k3, t_g3, t_p3, t_z3, t_k187, t_g187, t_p187, t_z187, t_k210, t_g210, t_p210, t_z210, t_k212, t_g212, t_p212, t_z212, t_k214, t_g214, t_p214, t_z214, t_r0_0, t_r0_1, t_r0_2, t_r0_4, t_r0_5, t_r0_6, t_r0_7, t_r1_0, t_r3_0, t_r187_0, t_r187_1, t_r187_2, t_r187_3, t_r210_0, t_r212_0, t_r214_1, t_r214_5, t_r214_6, t_r214_8, t_r214_10, t_a2, t_s2, t_a209, t_s209, t_a211, t_s211, t_a213, t_s213, t_a215, t_s215, t_a216, t_s216, t_a217, t_s217, t_a218, t_s218, t_a219, t_s219, t_a4, t_s4, zSt_sI, zSt_sF, zSt_zI, zSt_sJ, zSt_sD, zBo_0, zBo_1, hS, c1, v_gI hv, v_g4 hv, hq0, e1, g2, hc, bd2_some, bdx_inl, bdx_inr, bdc_inl, bdc_inr, obd_some, ↓reduceIte]
  | succ m ih =>
    intro fu a i L B S hr ha hR hq0 hj hf
    obtain ⟨fu, rfl⟩ : ∃ f, fu = f + 1 := ⟨fu - 1, by omega⟩
    have c1 : ¬ nI n ≤ nI a := nI_ge (by omega) (by omega)
    have hS := hr.1
    obtain ⟨S1, a1, a2, a3⟩ := c_take ht hr
    have hS1 := a3.1
    have xlt := pb_lt hb i
    have e1 : nI (pb t i) >>> (nI 4 &&& nI 31) = nI (pb t i / 16) := by rw [b_31 (by omega), b_shr (by omega) (by omega)]
    by_cases c2 : pb t i / 16 < 1
    · have c2' : nI (pb t i / 16) < nI 1 := nI_lt c2 (by omega)
      have hno : pAl t (m + 1) a i L B = none := by rw [pAl, if_pos (Or.inl c2)]
      refine ⟨fun i' L' B' e _ => (by rw [hno] at e; cases e), fun _ => ⟨S1, ?_, zTk_rf a2⟩⟩
      simp only [F_X0_takeAlleles_L20, l_0, l_1, l_2, l_3, l_4, l_5, l_6, l_7, l_8, l_9, l_10, l_11, l_12, l_13, l_14, l_15, l_16, l_17, l_18, l_19, l_20, l_21, l_24, l_25, l_26, l_27, l_31, l_33, l_41, l_65, l_67, l_71, l_84, l_120, l_127, l_128, l_130, l_160, l_162, l_200, l_255, l_256, l_999, l_1000, l_8000, l_9999, l_10000, l_8001, l_m1, t_k0, t_g0, t_p0, t_z0, t_k1, t_g1, t_p1, t_z1, t_k3, t_g3, t_p3, t_z3, t_k187, t_g187, t_p187, t_z187, t_k210, t_g210, t_p210, t_z210, t_k212, t_g212, t_p212, t_z212, t_k214, t_g214, t_p214, t_z214, t_r0_0, t_r0_1, t_r0_2, t_r0_4, t_r0_5, t_r0_6, t_r0_7, t_r1_0, t_r3_0, t_r187_0, t_r187_1, t_r187_2, t_r187_3, t_r210_0, t_r212_0, t_r214_1, t_r214_5, t_r214_6, t_r214_8, t_r214_10, t_a2, t_s2, t_a209, t_s209, t_a211, t_s211, t_a213, t_s213, t_a215, t_s215, t_a216, t_s216, t_a217, t_s217, t_a218, t_s218, t_a219, t_s219, t_a4, t_s4, zSt_sI, zSt_sF, zSt_zI, zSt_sJ, zSt_sD, zBo_0, zBo_1, hS, c1, a1, e1, c2', bd2_some, bdx_inl, bdx_inr, bdc_inl, bdc_inr, obd_some, ↓reduceIte]
    have c2' : ¬ nI (pb t i / 16) < nI 1 := nI_nlt (by omega) (by omega)
    by_cases c3 : 8 < pb t i / 16
    · have c3' : ¬ nI (pb t i / 16) ≤ nI 8 := nI_ge c3 (by omega)
      have hno : pAl t (m + 1) a i L B = none := by rw [pAl, if_pos (Or.inr c3)]
      refine ⟨fun i' L' B' e _ => (by rw [hno] at e; cases e), fun _ => ⟨S1, ?_, zTk_rf a2⟩⟩
      simp only [F_X0_takeAlleles_L20, l_0, l_1, l_2, l_3, l_4, l_5, l_6, l_7, l_8, l_9, l_10, l_11, l_12, l_13, l_14, l_15, l_16, l_17, l_18, l_19, l_20, l_21, l_24, l_25, l_26, l_27, l_31, l_33, l_41, l_65, l_67, l_71, l_84, l_120, l_127, l_128, l_130, l_160, l_162, l_200, l_255, l_256, l_999, l_1000, l_8000, l_9999, l_10000, l_8001, l_m1, t_k0, t_g0, t_p0, t_z0, t_k1, t_g1, t_p1, t_z1, t_k3, t_g3, t_p3, t_z3, t_k187, t_g187, t_p187, t_z187, t_k210, t_g210, t_p210, t_z210, t_k212, t_g212, t_p212, t_z212, t_k214, t_g214, t_p214, t_z214, t_r0_0, t_r0_1, t_r0_2, t_r0_4, t_r0_5, t_r0_6, t_r0_7, t_r1_0, t_r3_0, t_r187_0, t_r187_1, t_r187_2, t_r187_3, t_r210_0, t_r212_0, t_r214_1, t_r214_5, t_r214_6, t_r214_8, t_r214_10, t_a2, t_s2, t_a209, t_s209, t_a211, t_s211, t_a213, t_s213, t_a215, t_s215, t_a216, t_s216, t_a217, t_s217, t_a218, t_s218, t_a219, t_s219, t_a4, t_s4, zSt_sI, zSt_sF, zSt_zI, zSt_sJ, zSt_sD, zBo_0, zBo_1, hS, c1, a1, e1, c2', c3', bd2_some, bdx_inl, bdx_inr, bdc_inl, bdc_inr, obd_some, ↓reduceIte]
    have c3' : nI (pb t i / 16) ≤ nI 8 := nI_le (by omega) (by omega)
    obtain ⟨S2, b1, b2, b3⟩ := c_bases (ln := pb t i / 16) ht hb (by omega) a3
    have hS2 := b3.1
    have hv2 := v_sc hS2
    have ha2 := zRa_Tk b2 (zRa_Tk a2 ha)
    have hbl : pBs t (i + 1) (pb t i / 16) < 65536 := Nat.lt_of_lt_of_le (pBs_lt t (i + 1) _) (p4_8 (by omega))
    have hf' := c_find (S := S2) (v := z + 180) (n := a) (L := L) (B := B) (b := pBs t (i + 1) (pb t i / 16)) (l := pb t i / 16) hv2 ha2.1 (by omega) (fun j hj => by
      obtain ⟨q1, q2, q3, q4, q5⟩ := ha2.2 j hj
      exact ⟨q1, q2, by omega, by omega⟩) (by omega) (by omega)
    cases hk : fnd a L B (pb t i / 16) (pBs t (i + 1) (pb t i / 16)) with
    | some k =>
      rw [hk] at hf'
      have k1 := (fnd_some hk).1
      have c4 : ¬ fI (some k) < nI 0 := nI_nlt (by omega) (by omega)
      have hno : pAl t (m + 1) a i L B = none := by
        rw [pAl, if_neg (by omega), hk]
        exact if_neg (fun w => by cases w)
      refine ⟨fun i' L' B' e _ => (by rw [hno] at e; cases e), fun _ => ⟨S2, ?_, zTk_rf (zTk_trans a2 b2)⟩⟩
      simp only [F_X0_takeAlleles_L20, l_0, l_1, l_2, l_3, l_4, l_5, l_6, l_7, l_8, l_9, l_10, l_11, l_12, l_13, l_14, l_15, l_16, l_17, l_18, l_19, l_20, l_21, l_24, l_25, l_26, l_27, l_31, l_33, l_41, l_65, l_67, l_71, l_84, l_120, l_127, l_128, l_130, l_160, l_162, l_200, l_255, l_256, l_999, l_1000, l_8000, l_9999, l_10000, l_8001, l_m1, t_k0, t_g0, t_p0, t_z0, t_k1, t_g1, t_p1, t_z1, t_k3, t_g3, t_p3, t_z3, t_k187, t_g187, t_p187, t_z187, t_k210, t_g210, t_p210, t_z210, t_k212, t_g212, t_p212, t_z212, t_k214, t_g214, t_p214, t_z214, t_r0_0, t_r0_1, t_r0_2, t_r0_4, t_r0_5, t_r0_6, t_r0_7, t_r1_0, t_r3_0, t_r187_0, t_r187_1, t_r187_2, t_r187_3, t_r210_0, t_r212_0, t_r214_1, t_r214_5, t_r214_6, t_r214_8, t_r214_10, t_a2, t_s2, t_a209, t_s209, t_a211, t_s211, t_a213, t_s213, t_a215, t_s215, t_a216, t_s216, t_a217, t_s217, t_a218, t_s218, t_a219, t_s219, t_a4, t_s4, zSt_sI, zSt_sF, zSt_zI, zSt_sJ, zSt_sD, zBo_0, zBo_1, hS, hS1, c1, a1, e1, c2', c3', b1, v_pk hv2, hf', c4, bd2_some, bdx_inl, bdx_inr, bdc_inl, bdc_inr, obd_some, ↓reduceIte]
    | none =>
      rw [hk] at hf'
      have c4 : fI none < nI 0 := m1_lt
      have hA := c_append (S := S2) (v := z + 180) (n := a) (b := nI (pBs t (i + 1) (pb t i / 16))) (l := nI (pb t i / 16)) hv2 ha2.1 (by omega)
      have hF : zFr (z + 180) (z + 180 + 7) S2 (appV S2 (z + 180) a (nI (pBs t (i + 1) (pb t i / 16))) (nI (pb t i / 16))) := app_Fr
      have hF' : zFr (z + 180) (z + 187) S2 (appV S2 (z + 180) a (nI (pBs t (i + 1) (pb t i / 16))) (nI (pb t i / 16))) := hF
      have hyes : pAl t (m + 1) a i L B = pAl t m (a + 1) (i + 1 + pb t i / 16) (va_up L a (pb t i / 16)) (va_up B a (pBs t (i + 1) (pb t i / 16))) := by
        rw [pAl, if_neg (by omega), hk]
        exact if_pos rfl
      have rows2 : ∀ b, b < z + 210 → mI S2 b = mI S b := fun b hb => by rw [b2.1.2 b (by omega), a2.1.2 b (by omega)]
      have IH := ih fu (a + 1) (i + 1 + pb t i / 16) (va_up L a (pb t i / 16)) (va_up B a (pBs t (i + 1) (pb t i / 16))) _ (zRd_Fr hF' b3) (by
        refine ⟨?_, fun j hj => ?_⟩
        · simp [appV, mI_sI]
        · rw [up_at, up_at]
          by_cases e : j = a
          · subst e
            simp [appV, mI_sI]
            omega
          · obtain ⟨q1, q2, q3, q4, q5⟩ := ha2.2 j (by omega)
            simp [appV, mI_sI, e, q1, q2, q3, q4, q5]) (zRf_of (by rw [hF.2 _ (by omega), rows2 _ (by omega)]) (by rw [hF.2 _ (by omega), rows2 _ (by omega)]) hR) (by
        simp [appV, mI_sI]
        rw [rows2 _ (by omega)]
        exact hq0) (by omega) (by omega)
      have fr : zRf2 z S (appV S2 (z + 180) a (nI (pBs t (i + 1) (pb t i / 16))) (nI (pb t i / 16))) := zRf2_trans (zTk_rf (zTk_trans a2 b2)) (zRf2_Fr hF')
      have st : F_X0_takeAlleles_L20 (fu + 1) (z + 210) (z + 180) (z + 1) (nI n) (nI a) S = F_X0_takeAlleles_L20 fu (z + 210) (z + 180) (z + 1) (nI n) (nI (a + 1)) (appV S2 (z + 180) a (nI (pBs t (i + 1) (pb t i / 16))) (nI (pb t i / 16))) := by
        simp only [F_X0_takeAlleles_L20, l_0, l_1, l_2, l_3, l_4, l_5, l_6, l_7, l_8, l_9, l_10, l_11, l_12, l_13, l_14, l_15, l_16, l_17, l_18, l_19, l_20, l_21, l_24, l_25, l_26, l_27, l_31, l_33, l_41, l_65, l_67, l_71, l_84, l_120, l_127, l_128, l_130, l_160, l_162, l_200, l_255, l_256, l_999, l_1000, l_8000, l_9999, l_10000, l_8001, l_m1, t_k0, t_g0, t_p0, t_z0, t_k1, t_g1, t_p1, t_z1, t_k3, t_g3, t_p3, t_z3, t_k187, t_g187, t_p187, t_z187, t_k210, t_g210, t_p210, t_z210, t_k212, t_g212, t_p212, t_z212, t_k214, t_g214, t_p214, t_z214, t_r0_0, t_r0_1, t_r0_2, t_r0_4, t_r0_5, t_r0_6, t_r0_7, t_r1_0, t_r3_0, t_r187_0, t_r187_1, t_r187_2, t_r187_3, t_r210_0, t_r212_0, t_r214_1, t_r214_5, t_r214_6, t_r214_8, t_r214_10, t_a2, t_s2, t_a209, t_s209, t_a211, t_s211, t_a213, t_s213, t_a215, t_s215, t_a216, t_s216, t_a217, t_s217, t_a218, t_s218, t_a219, t_s219, t_a4, t_s4, zSt_sI, zSt_sF, zSt_zI, zSt_sJ, zSt_sD, zBo_0, zBo_1, hS, hS1, c1, a1, e1, c2', c3', b1, v_pk hv2, hf', c4, hA, bd2_some, bdx_inl, bdx_inr, bdc_inl, bdc_inr, obd_some, ↓reduceIte, nI_add]
      rw [hyes, st]
      refine ⟨fun i' L' B' e hh => ?_, fun hh => ?_⟩
      · obtain ⟨S3, q1, q2, q3, q4, q5, q6, q7⟩ := IH.1 i' L' B' e hh
        refine ⟨S3, q1, zRf2_trans fr q2, q3, q4, ?_, ?_, fun u u1 u2 => ?_⟩
        · rw [q5]
          simp [appV, mI_sI]
          rw [rows2 _ (by omega)]
        · rw [q6]
          simp [appV, mI_sI]
          rw [rows2 _ (by omega)]
        · rw [q7 u u1 u2, ← rows2 _ (by omega)]
          funext w
          simp only [appV, mI_sI]
          rw [if_neg (by omega), if_neg (by omega), if_neg (by omega), if_neg (by omega)]
      · obtain ⟨S3, q1, q2⟩ := IH.2 hh
        exact ⟨S3, q1, zRf2_trans fr q2⟩
end C13
