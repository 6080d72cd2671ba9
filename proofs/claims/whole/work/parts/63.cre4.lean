set_option maxRecDepth 20000
section C16
variable {S S' S1 S2 : Mem} {z v n a lo hi o k i A f N p : Nat} {r : Rc} {s : As} {t : List Nat} {rf : Nat → Nat}
theorem aAl_up {l b : Nat} {L B : Nat → Nat} (h : aAl n L B) (h1 : 1 ≤ l) (h8 : l ≤ 8) (hb : b < 4 ^ l) (hf : fnd n L B l b = none) : aAl (n + 1) (va_up L n l) (va_up B n b) := by
  rw [fnd_none] at hf
  refine ⟨fun i hi => ?_, fun i j hi hj e1 e2 => ?_⟩
  · by_cases c : i = n
    · subst c
      simp only [va_up, ↓reduceIte]
      exact ⟨h1, h8, hb⟩
    · simp only [va_up, c, ↓reduceIte]
      exact h.1 i (by omega)
  · by_cases c : i = n
    · by_cases c' : j = n
      · omega
      · subst c
        simp only [va_up, c', ↓reduceIte] at e1 e2
        exact absurd ⟨e1.symm, e2.symm⟩ (hf j (by omega))
    · by_cases c' : j = n
      · subst c'
        simp only [va_up, c, ↓reduceIte] at e1 e2
        exact absurd ⟨e1, e2⟩ (hf i (by omega))
      · simp only [va_up, c, c', ↓reduceIte] at e1 e2
        exact h.2 i j (by omega) (by omega) e1 e2
theorem pAl_ok : ∀ (m a i : Nat) (L B : Nat → Nat) (i' : Nat) (L' B' : Nat → Nat), aAl a L B → pAl t m a i L B = some (i', L', B') → aAl (a + m) L' B' := by
  intro m
  induction m with
  | zero =>
    intro a i L B i' L' B' h e
    cases e
    exact h
  | succ m ih =>
    intro a i L B i' L' B' h e
    rw [pAl] at e
    by_cases c1 : pb t i / 16 < 1 ∨ 8 < pb t i / 16
    · rw [if_pos c1] at e; cases e
    · rw [if_neg c1] at e
      by_cases c2 : fnd a L B (pb t i / 16) (pBs t (i + 1) (pb t i / 16)) = none
      · rw [if_pos c2] at e
        have := ih (a + 1) _ _ _ i' L' B' (aAl_up h (by omega) (by omega) (pBs_lt t _ _) c2) e
        rw [show a + (m + 1) = a + 1 + m by omega]
        exact this
      · rw [if_neg c2] at e; cases e
/-- what the numbers behind the alleles must keep -/
def pGd (t : List Nat) (n i : Nat) : Prop := (∀ k, k < n → pRw t i k ≤ 9999) ∧ ((pb t (pNx t i n + 1) / 2 ≤ n ∧ pb t (pNx t i n + 2) / 2 ≤ n) ∧ ∀ k, k < prs n → pRw t (pNx t i n + 3) k ≤ 999) ∧ ((pb t (pNx t (pNx t i n + 3) (prs n) + 1) / 2 ≤ n ∧ pb t (pNx t (pNx t i n + 3) (prs n) + 2) / 2 ≤ n) ∧ ∀ k, k < prs n → pRw t (pNx t (pNx t i n + 3) (prs n) + 3) k ≤ 999)
theorem pG0 {L B : Nat → Nat} : aG (pRec t n i L B) 0 = pb t (pNx t i n + 1) / 2 := rfl
theorem pG1 {L B : Nat → Nat} : aG (pRec t n i L B) 1 = pb t (pNx t i n + 2) / 2 := rfl
theorem pG2 {L B : Nat → Nat} : aG (pRec t n i L B) 2 = pb t (pNx t (pNx t i n + 3) (prs n) + 1) / 2 := rfl
theorem pG3 {L B : Nat → Nat} : aG (pRec t n i L B) 3 = pb t (pNx t (pNx t i n + 3) (prs n) + 2) / 2 := rfl
theorem pK0 {L B : Nat → Nat} (h : k < 10) : aK (pRec t n i L B) k = pRw t (pNx t i n + 3) k := if_pos h
theorem pK1 {L B : Nat → Nat} : aK (pRec t n i L B) (10 + k) = pRw t (pNx t (pNx t i n + 3) (prs n) + 3) k := by
  show (if 10 + k < 10 then _ else pRw t (pNx t (pNx t i n + 3) (prs n) + 3) (10 + k - 10)) = _
  rw [if_neg (by omega), show 10 + k - 10 = k by omega]
theorem pVd_iff {L B : Nat → Nat} (hn : n ≤ 4) : pVd n (pRec t n i L B) = true ↔ pGd t n i := by
  have p10 := prs_le hn
  unfold pVd pGd
  rw [pG0, pG1, pG2, pG3]
  have e0 : (∀ k, k < prs n → aK (pRec t n i L B) k ≤ 999) ↔ ∀ k, k < prs n → pRw t (pNx t i n + 3) k ≤ 999 :=
    ⟨fun h k hk => by rw [← pK0 (L := L) (B := B) (by omega)]; exact h k hk, fun h k hk => by rw [pK0 (by omega)]; exact h k hk⟩
  have e1 : (∀ k, k < prs n → aK (pRec t n i L B) (10 + k) ≤ 999) ↔ ∀ k, k < prs n → pRw t (pNx t (pNx t i n + 3) (prs n) + 3) k ≤ 999 :=
    ⟨fun h k hk => by rw [← pK1 (L := L) (B := B)]; exact h k hk, fun h k hk => by rw [pK1]; exact h k hk⟩
  rw [Bool.and_eq_true, Bool.and_eq_true, Bool.and_eq_true, decide_eq_true_eq, decide_eq_true_eq, decide_eq_true_eq, decide_eq_true_eq, e0, e1]
  exact ⟨fun ⟨h1, ⟨h2, h3, h4, h5⟩, h6, h7⟩ => ⟨h1, ⟨⟨h2, h3⟩, h6⟩, ⟨h4, h5⟩, h7⟩, fun ⟨h1, ⟨⟨h2, h3⟩, h6⟩, ⟨h4, h5⟩, h7⟩ => ⟨h1, ⟨h2, h3, h4, h5⟩, h6, h7⟩⟩
theorem prse_some {L B : Nat → Nat} {i' : Nat} (h1 : p2 t 2 ≤ 8000) (h2 : 2 ≤ pb t 4) (h3 : pb t 4 ≤ 4) (h4 : pAl t (pb t 4) 0 5 (fun _ => 0) (fun _ => 0) = some (i', L, B)) (h5 : 1 ≤ p2 t 0 ∧ p2 t 0 + L 0 ≤ p + 1 ∧ B 0 = rn rf (p2 t 0) (L 0)) (h6 : pGd t (pb t 4) i') : prse p rf t = some (pRec t (pb t 4) i' L B) := by
  unfold prse
  rw [if_pos ⟨h1, h2, h3⟩, h4]
  exact if_pos ⟨h5, (pVd_iff h3).mpr h6⟩
theorem prse_no1 (h : ¬ (p2 t 2 ≤ 8000 ∧ 2 ≤ pb t 4 ∧ pb t 4 ≤ 4)) : prse p rf t = none := if_neg h
theorem prse_no2 (h4 : pAl t (pb t 4) 0 5 (fun _ => 0) (fun _ => 0) = none) : prse p rf t = none := by
  unfold prse
  rw [h4]
  exact ite_self _
theorem prse_no3 {L B : Nat → Nat} {i' : Nat} (h4 : pAl t (pb t 4) 0 5 (fun _ => 0) (fun _ => 0) = some (i', L, B)) (h : ¬ (1 ≤ p2 t 0 ∧ p2 t 0 + L 0 ≤ p + 1 ∧ B 0 = rn rf (p2 t 0) (L 0))) : prse p rf t = none := by
  unfold prse
  rw [h4]
  by_cases c : p2 t 2 ≤ 8000 ∧ 2 ≤ pb t 4 ∧ pb t 4 ≤ 4
  · rw [if_pos c]
    exact if_neg (fun q => h q.1)
  · rw [if_neg c]
theorem prse_no4 {L B : Nat → Nat} {i' : Nat} (h4 : pAl t (pb t 4) 0 5 (fun _ => 0) (fun _ => 0) = some (i', L, B)) (h : ¬ pGd t (pb t 4) i') : prse p rf t = none := by
  unfold prse
  rw [h4]
  by_cases c : p2 t 2 ≤ 8000 ∧ 2 ≤ pb t 4 ∧ pb t 4 ≤ 4
  · rw [if_pos c]
    exact if_neg (fun q => h ((pVd_iff c.2.2).mp q.2))
  · rw [if_neg c]
theorem prse_ok (h : prse p rf t = some r) : aOk p rf r := by
  unfold prse at h
  by_cases c : p2 t 2 ≤ 8000 ∧ 2 ≤ pb t 4 ∧ pb t 4 ≤ 4
  · rw [if_pos c] at h
    cases e : pAl t (pb t 4) 0 5 (fun _ => 0) (fun _ => 0) with
    | none => rw [e] at h; cases h
    | some q =>
      obtain ⟨i', L, B⟩ := q
      rw [e] at h
      by_cases c2 : (1 ≤ p2 t 0 ∧ p2 t 0 + L 0 ≤ p + 1 ∧ B 0 = rn rf (p2 t 0) (L 0)) ∧ pVd (pb t 4) (pRec t (pb t 4) i' L B) = true
      · have h' : (if (1 ≤ p2 t 0 ∧ p2 t 0 + L 0 ≤ p + 1 ∧ B 0 = rn rf (p2 t 0) (L 0)) ∧ pVd (pb t 4) (pRec t (pb t 4) i' L B) = true then some (pRec t (pb t 4) i' L B) else none) = some r := h
        rw [if_pos c2] at h'
        cases h'
        have hA := pAl_ok (t := t) _ _ _ _ _ _ _ _ (show aAl 0 (fun _ => 0) (fun _ => 0) from ⟨fun i hi => by omega, fun i j hi => by omega⟩) e
        rw [Nat.zero_add] at hA
        have g := (pVd_iff (L := L) (B := B) c.2.2).mp c2.2
        obtain ⟨g1, ⟨⟨g2, g3⟩, g4⟩, ⟨g5, g6⟩, g7⟩ := g
        have p10 := prs_le c.2.2
        refine ⟨c.2, hA, c2.1, c.1, g1, fun i hi => ?_, fun i hi => ?_, fun i hi => ⟨?_, ?_⟩⟩
        · rcases (show i = 0 ∨ i = 1 ∨ i = 2 ∨ i = 3 by omega) with e | e | e | e <;> subst e
          · rw [pG0]; exact g2
          · rw [pG1]; exact g3
          · rw [pG2]; exact g5
          · rw [pG3]; exact g6
        · rcases (show i = 0 ∨ i = 1 by omega) with e | e <;> subst e
          · show pb t (pNx t i' (pb t 4) + 1) % 2 ≤ 1; omega
          · show pb t (pNx t (pNx t i' (pb t 4) + 3) (prs (pb t 4)) + 1) % 2 ≤ 1; omega
        · have hi' : i < prs (pb t 4) := hi
          rw [pK0 (by omega)]; exact g4 i hi'
        · rw [pK1]; exact g7 i hi
      · have h' : (if (1 ≤ p2 t 0 ∧ p2 t 0 + L 0 ≤ p + 1 ∧ B 0 = rn rf (p2 t 0) (L 0)) ∧ pVd (pb t 4) (pRec t (pb t 4) i' L B) = true then some (pRec t (pb t 4) i' L B) else none) = some r := h
        rw [if_neg c2] at h'
        cases h'
  · rw [if_neg c] at h; cases h
theorem c_takeV (hp : p ≤ 160) (ht : t.length ≤ 120) (hb : ∀ b, b ∈ t → b < 256) (h4 : ∀ i, rf i < 4) (hS : zSt z S) (hT : zBy S (z + 210) t) (hR : zRf z S p rf) :
    match prse p rf t with
    | some r => ∃ S', F_X0_takeVariant (z + 210) (z + 180) (z + 1) S = some (nI 1, S') ∧ zRf2 z S S' ∧ zCR S' (z + 180) r
    | none => ∃ S', F_X0_takeVariant (z + 210) (z + 180) (z + 1) S = some (nI 0, S') ∧ zRf2 z S S' := by
  have f0 : zTk z S (sI S (z + 210) 2 (nI 0)) := ⟨zFr_sI (by omega) (by omega), by rw [mI_sI, if_neg (by omega)]⟩
  obtain ⟨S0, g0⟩ : ∃ T, T = sI S (z + 210) 2 (nI 0) := ⟨_, rfl⟩
  rw [← g0] at f0
  have hS0 : zSt z S0 := by rw [g0]; exact hS
  have r0 : zRd z t S0 0 := by
    refine ⟨hS0, ⟨?_, fun j b hj => ?_⟩, ?_⟩
    · rw [g0, mI_sI, if_neg (by omega)]; exact hT.1
    · rw [g0, mI_sI, if_neg (by omega)]; exact hT.2 j b hj
    · rw [g0, mI_sI, if_pos ⟨rfl, rfl⟩, Nat.zero_min]
  obtain ⟨S1, g1⟩ : ∃ T, T = clrV S0 (z + 180) := ⟨_, rfl⟩
  have F1 : zFr (z + 180) (z + 187) S0 S1 := by rw [g1]; exact zFr_mono clr_Fr (by omega) (by omega)
  have k1 := c_clear (v_sc hS0)
  rw [← g1] at k1
  have r1 := zRd_Fr F1 r0
  have hS1 := r1.1
  obtain ⟨S2, a1, a2, a3⟩ := c_take2 ht r1
  have hS2 := a3.1
  obtain ⟨S3, g3⟩ : ∃ T, T = sI S2 (z + 180) 0 (nI (p2 t 0)) := ⟨_, rfl⟩
  have F3 : zFr (z + 180) (z + 187) S2 S3 := by rw [g3]; exact zFr_sI (by omega) (by omega)
  have r3 := zRd_Fr F3 a3
  have hS3 := r3.1
  obtain ⟨S4, b1, b2, b3⟩ := c_take2 ht r3
  have hS4 := b3.1
  rw [show 0 + 2 = 2 from rfl] at b1
  obtain ⟨S5, g5⟩ : ∃ T, T = sI S4 (z + 180) 1 (nI (p2 t 2)) := ⟨_, rfl⟩
  have F5 : zFr (z + 180) (z + 187) S4 S5 := by rw [g5]; exact zFr_sI (by omega) (by omega)
  have r5 := zRd_Fr F5 b3
  rw [show 0 + 2 + 2 = 4 from rfl] at r5
  have hS5 := r5.1
  have p1 := v_pI (j := 0) (x := nI (p2 t 0)) (v_sc hS2)
  have p3 := v_pI (j := 1) (x := nI (p2 t 2)) (v_sc hS4)
  rw [← g3] at p1
  rw [← g5] at p3
  have T5 : zRf2 z S S5 := zRf2_trans (zTk_rf f0) (zRf2_trans (zRf2_Fr F1) (zRf2_trans (zTk_rf a2) (zRf2_trans (zRf2_Fr F3) (zRf2_trans (zTk_rf b2) (zRf2_Fr F5)))))
  have v0 : mI S5 (z + 180) 0 = nI (p2 t 0) := by rw [g5, mI_sI, if_neg (by omega), b2.1.2 _ (by omega), g3, mI_sI, if_pos ⟨rfl, rfl⟩]
  have v1 : mI S5 (z + 180) 1 = nI (p2 t 2) := by rw [g5, mI_sI, if_pos ⟨rfl, rfl⟩]
  have v2 : mI S5 (z + 180) 2 = nI 0 := by
    rw [g5, mI_sI, if_neg (by omega), b2.1.2 _ (by omega), g3, mI_sI, if_neg (by omega), a2.1.2 _ (by omega), g1]
    exact clr_0.2.2
  have q0 := p2_lt hb 0
  have q2 := p2_lt hb 2
  have pp := t_p210 (j := 2) (x := nI 0) hS
  rw [← g0] at pp
  have st1 : ∀ X, (if nI 8000 < nI (p2 t 2) then some (nI 0, S5) else (pk 0 S5 (z + 210)).bind fun _ => bd2 (F_X0_takeAlleles (z + 210) (z + 180) (z + 1) S5) fun t29 S30 =>
      if t29 = nI 0 then some (nI 0, S30) else
        (pgR 4 5 S30 (z + 180)).bind fun t32 =>
        (pgI 4 2 S30 (z + 180)).bind fun t33 =>
        (pk 0 S30 (z + 210)).bind fun _ =>
        bd2 (F_X0_takeNumbers (z + 210) t32 (nI 0) t33 (nI 9999) S30) fun t35 S36 =>
        if t35 = nI 0 then some (nI 0, S36) else F_X0_takeVariant_L71 FU (z + 210) (z + 180) (nI 0) S36) = X → F_X0_takeVariant (z + 210) (z + 180) (z + 1) S = X := by
    intro X hX
    rw [← hX]
    simp only [F_X0_takeVariant, l_0, l_1, l_2, l_3, l_4, l_5, l_6, l_7, l_8, l_9, l_10, l_11, l_12, l_13, l_14, l_15, l_16, l_17, l_18, l_19, l_20, l_21, l_24, l_25, l_26, l_27, l_31, l_33, l_41, l_65, l_67, l_71, l_84, l_120, l_127, l_128, l_130, l_160, l_162, l_200, l_255, l_256, l_999, l_1000, l_8000, l_9999, l_10000, l_8001, l_m1, pp, v_pk (v_sc hS0), k1, t_k210 hS1, a1, p1, t_k210 hS3, b1, p3, v_gI (v_sc hS5), v1, bd2_some, bdx_inl, bdx_inr, bdc_inl, bdc_inr, obd_some]
    rfl
  by_cases c1 : p2 t 2 ≤ 8000
  · have c1' : ¬ nI 8000 < nI (p2 t 2) := nI_nlt c1 (by omega)
    obtain ⟨M1, M2⟩ := c_takeAl (p := p) (q := p2 t 0) (rf := rf) ht hb h4 hp q0 r5 v2 ⟨by rw [T5.1.2 _ (by omega)]; exact hR.1, fun j hj => by rw [T5.1.2 _ (by omega)]; exact hR.2 j hj⟩ v0
    rw [show 4 + 1 = 5 from rfl] at M1 M2
    by_cases c2 : 2 ≤ pb t 4 ∧ pb t 4 ≤ 4
    · cases e : pAl t (pb t 4) 0 5 (fun _ => 0) (fun _ => 0) with
      | none =>
        rw [prse_no2 e]
        obtain ⟨S6, d1, d2⟩ := M2 (Or.inr (Or.inl e))
        refine ⟨S6, st1 _ ?_, zRf2_trans T5 d2⟩
        simp only [c1', t_k210 hS5, d1, bd2_some, bdx_inl, bdx_inr, bdc_inl, bdc_inr, obd_some, ↓reduceIte]
      | some w =>
        obtain ⟨i', L, B⟩ := w
        by_cases c3 : 1 ≤ p2 t 0 ∧ p2 t 0 + L 0 ≤ p + 1 ∧ B 0 = rn rf (p2 t 0) (L 0)
        · obtain ⟨S6, d1, d2, d3, d4, d5, d6, d7⟩ := M1 i' L B c2.1 c2.2 e c3
          have hS6 := d3.1
          have hv6 := v_sc hS6
          have n10 : ¬ nI 1 = nI 0 := ne10
          obtain ⟨N1, N2⟩ := c_tkN (A := z + 180 + 3) (f := 0) (n := pb t 4) (N := 4) (most := 9999) ht hb (by omega) (by omega) (by omega) (by omega) (by omega) d3 hv6.2.2.2.2.1.1 hv6.2.2.2.2.1.2
          by_cases c4 : ∀ k, k < pb t 4 → pRw t i' k ≤ 9999
          · obtain ⟨S7, e1, e2, e3, e4⟩ := N1 c4
            have T7 : zRf2 z S S7 := zRf2_trans T5 (zRf2_trans d2 (zFA_rf (by omega) (by omega) e2))
            have n7 : mI S7 (z + 180) 2 = nI (pb t 4) := by rw [e2.2.1 _ (by omega) (by omega)]; exact d4.1
            have st2 : ∀ X, F_X0_takeVariant_L71 (3997 + 1 + 1 + 1) (z + 210) (z + 180) (nI 0) S7 = X → F_X0_takeVariant (z + 210) (z + 180) (z + 1) S = X := by
              intro X hX
              refine st1 _ ?_
              rw [← hX]
              simp only [c1', t_k210 hS5, d1, ne10, v_g5 hv6, v_gI hv6, d4.1, t_k210 hS6, e1, bd2_some, bdx_inl, bdx_inr, bdc_inl, bdc_inr, obd_some, ↓reduceIte]
              rfl
            obtain ⟨P1, P2⟩ := c_smp (m := 0) (fu := 3997 + 1 + 1) ht hb (by omega) e3 n7 c2.2
            by_cases c5 : (pb t (pNx t i' (pb t 4) + 1) / 2 ≤ pb t 4 ∧ pb t (pNx t i' (pb t 4) + 2) / 2 ≤ pb t 4) ∧ ∀ k, k < prs (pb t 4) → pRw t (pNx t i' (pb t 4) + 3) k ≤ 999
            · obtain ⟨S8, h1, h2, h3, h5, h6, h7, h8, h9, h10, h11, h12⟩ := P1 c5
              have n8 : mI S8 (z + 180) 2 = nI (pb t 4) := by rw [h5 _ (by omega) (by omega) (by omega) (by omega)]; exact n7
              obtain ⟨Q1, Q2⟩ := c_smp (m := 1) (fu := 3997 + 1) ht hb (by omega) h3 n8 c2.2
              by_cases c6 : (pb t (pNx t (pNx t i' (pb t 4) + 3) (prs (pb t 4)) + 1) / 2 ≤ pb t 4 ∧ pb t (pNx t (pNx t i' (pb t 4) + 3) (prs (pb t 4)) + 2) / 2 ≤ pb t 4) ∧ ∀ k, k < prs (pb t 4) → pRw t (pNx t (pNx t i' (pb t 4) + 3) (prs (pb t 4)) + 3) k ≤ 999
              · rw [prse_some c1 c2.1 c2.2 e c3 ⟨c4, c5, c6⟩]
                obtain ⟨S9, j1, j2, j3, j5, j6, j7, j8, j9, j10, j11, j12⟩ := Q1 c6
                have c7 : nI 2 ≤ nI (1 + 1) := nI_le (by omega) (by omega)
                have p10 := prs_le c2.2
                refine ⟨S9, st2 _ ?_, zRf2_trans T7 (zRf2_trans h2 j2), ⟨?_, ?_, ?_⟩, fun i hi => ⟨?_, ?_, ?_⟩, fun i hi => ?_, fun i hi => ?_, fun i hi => ⟨?_, ?_⟩⟩
                · rw [h1]
                  refine j1.trans ?_
                  simp only [F_X0_takeVariant_L71, l_0, l_1, l_2, l_3, l_4, l_5, l_6, l_7, l_8, l_9, l_10, l_11, l_12, l_13, l_14, l_15, l_16, l_17, l_18, l_19, l_20, l_21, l_24, l_25, l_26, l_27, l_31, l_33, l_41, l_65, l_67, l_71, l_84, l_120, l_127, l_128, l_130, l_160, l_162, l_200, l_255, l_256, l_999, l_1000, l_8000, l_9999, l_10000, l_8001, l_m1, c7, ↓reduceIte]
                · rw [j5 _ (by omega) (by omega) (by omega) (by omega), h5 _ (by omega) (by omega) (by omega) (by omega), e2.2.1 _ (by omega) (by omega), d5, v0]
                  rfl
                · rw [j5 _ (by omega) (by omega) (by omega) (by omega), h5 _ (by omega) (by omega) (by omega) (by omega), e2.2.1 _ (by omega) (by omega), d6, v1]
                  rfl
                · rw [j5 _ (by omega) (by omega) (by omega) (by omega)]; exact n8
                · rw [j5 _ (by omega) (by omega) (by omega) (by omega), h5 _ (by omega) (by omega) (by omega) (by omega), e2.2.1 _ (by omega) (by omega)]; exact (d4.2 i hi).1
                · rw [j5 _ (by omega) (by omega) (by omega) (by omega), h5 _ (by omega) (by omega) (by omega) (by omega), e2.2.1 _ (by omega) (by omega)]; exact (d4.2 i hi).2.1
                · rw [j5 _ (by omega) (by omega) (by omega) (by omega), h5 _ (by omega) (by omega) (by omega) (by omega)]
                  have := e4 i hi
                  rw [Nat.zero_add] at this
                  exact this
                · rcases (show i = 0 ∨ i = 1 ∨ i = 2 ∨ i = 3 by omega) with e | e | e | e <;> subst e
                  · rw [j9 0 (by omega) (by omega), pG0]; exact h6
                  · rw [j9 1 (by omega) (by omega), pG1]; exact h7
                  · rw [pG2]; exact j6
                  · rw [pG3]; exact j7
                · rcases (show i = 0 ∨ i = 1 by omega) with e | e <;> subst e
                  · rw [j10 0 (by omega)]; exact h8
                  · exact j8
                · have hi' : i < prs (pb t 4) := hi
                  rw [j12 i (by omega), pK0 (by omega)]
                  have := h11 i hi'
                  rw [show 10 * 0 + i = i by omega] at this
                  exact this
                · rw [pK1]; exact j11 i hi
              · rw [prse_no4 e (fun q => c6 q.2.2)]
                obtain ⟨S9, j1, j2⟩ := Q2 c6
                exact ⟨S9, st2 _ (h1.trans j1), zRf2_trans T7 (zRf2_trans h2 j2)⟩
            · rw [prse_no4 e (fun q => c5 q.2.1)]
              obtain ⟨S8, j1, j2⟩ := P2 c5
              exact ⟨S8, st2 _ j1, zRf2_trans T7 j2⟩
          · rw [prse_no4 e (fun q => c4 q.1)]
            obtain ⟨S7, e1, e2⟩ := N2 c4
            refine ⟨S7, st1 _ ?_, zRf2_trans T5 (zRf2_trans d2 e2)⟩
            simp only [c1', t_k210 hS5, d1, ne10, v_g5 hv6, v_gI hv6, d4.1, t_k210 hS6, e1, bd2_some, bdx_inl, bdx_inr, bdc_inl, bdc_inr, obd_some, ↓reduceIte]
        · rw [prse_no3 e c3]
          obtain ⟨S6, d1, d2⟩ := M2 (Or.inr (Or.inr ⟨i', L, B, e, c3⟩))
          refine ⟨S6, st1 _ ?_, zRf2_trans T5 d2⟩
          simp only [c1', t_k210 hS5, d1, bd2_some, bdx_inl, bdx_inr, bdc_inl, bdc_inr, obd_some, ↓reduceIte]
    · rw [prse_no1 (fun q => c2 q.2)]
      obtain ⟨S6, d1, d2⟩ := M2 (Or.inl c2)
      refine ⟨S6, st1 _ ?_, zRf2_trans T5 d2⟩
      simp only [c1', t_k210 hS5, d1, bd2_some, bdx_inl, bdx_inr, bdc_inl, bdc_inr, obd_some, ↓reduceIte]
  · rw [prse_no1 (fun q => c1 q.1)]
    exact ⟨S5, st1 _ (if_pos (nI_lt (by omega) (by omega))), T5⟩
end C16
