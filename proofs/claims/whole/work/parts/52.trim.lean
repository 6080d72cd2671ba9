set_option maxRecDepth 20000
/-! Normalising in numbers. -/
theorem rn_front (rf : Nat → Nat) (p : Nat) : ∀ l, rn rf p (l + 1) = rf p * 4 ^ l + rn rf (p + 1) l := by
  intro l
  induction l with
  | zero => simp [rn]
  | succ l ih =>
    rw [rn, ih, rn, p4_s, Nat.mul_add]
    have e : p + (l + 1) = p + 1 + l := by omega
    rw [e, Nat.mul_left_comm]
    omega
theorem rn_div {rf : Nat → Nat} (h : ∀ i, rf i < 4) (p l : Nat) : rn rf p (l + 1) / 4 = rn rf p l := by
  rw [rn]
  have := h (p + l)
  omega
theorem rn_mod {rf : Nat → Nat} (h : ∀ i, rf i < 4) (p l : Nat) : rn rf p (l + 1) % 4 ^ l = rn rf (p + 1) l := by
  rw [rn_front, Nat.add_comm, Nat.add_mul_mod_self_right]
  exact Nat.mod_eq_of_lt (rn_lt h _ l)
theorem aTwo_t {n : Nat} {L : Nat → Nat} : aTwo n L = true ↔ ∀ i, i < n → 1 < L i := by unfold aTwo; rw [decide_eq_true_iff]
theorem aEnd_t {n : Nat} {B : Nat → Nat} : aEnd n B = true ↔ ∀ i, i < n → B i % 4 = B 0 % 4 := by unfold aEnd; rw [decide_eq_true_iff]
theorem aFst_t {n : Nat} {L B : Nat → Nat} : aFst n L B = true ↔ ∀ i, i < n → fst L B i = fst L B 0 := by unfold aFst; rw [decide_eq_true_iff]
def mu (r : Rc) : Nat := aP r + 2 * aL r 0
theorem step_1 {p : Nat} {rf : Nat → Nat} {r : Rc} (h4 : ∀ i, rf i < 4) (h : aOk p rf r) (hE : aEnd (aN r) (aB r) = true) (hT : aTwo (aN r) (aL r) = true) : aOk p rf (wAl r (aP r) (fun i => aL r i - 1) (fun i => aB r i / 4)) ∧ mu (wAl r (aP r) (fun i => aL r i - 1) (fun i => aB r i / 4)) < mu r := by
  obtain ⟨hn, hA, hR, hV⟩ := h
  rw [aEnd_t] at hE
  rw [aTwo_t] at hT
  have n0 : 0 < aN r := by omega
  refine ⟨⟨hn, ⟨fun i hi => ?_, fun i j hi hj h1 h2 => ?_⟩, ⟨hR.1, ?_, ?_⟩, hV⟩, ?_⟩
  · have hi' : i < aN r := hi
    obtain ⟨a, b, c⟩ := hA.1 i hi'
    have := hT i hi'
    refine ⟨by show 1 ≤ aL r i - 1; omega, by show aL r i - 1 ≤ 8; omega, ?_⟩
    show aB r i / 4 < 4 ^ (aL r i - 1)
    obtain ⟨l, e⟩ : ∃ l, aL r i = l + 1 := ⟨aL r i - 1, by omega⟩
    rw [e, p4_s] at c
    rw [e, Nat.add_sub_cancel]
    omega
  · have hi' : i < aN r := hi
    have hj' : j < aN r := hj
    have h1' : aL r i - 1 = aL r j - 1 := h1
    have h2' : aB r i / 4 = aB r j / 4 := h2
    have a1 := hT i hi'
    have a2 := hT j hj'
    have a3 := hE i hi'
    have a4 := hE j hj'
    exact hA.2 i j hi' hj' (by omega) (by omega)
  · have := hR.2.1
    show aP r + (aL r 0 - 1) ≤ p + 1
    omega
  · show aB r 0 / 4 = rn rf (aP r) (aL r 0 - 1)
    have := hT 0 n0
    obtain ⟨l, e⟩ : ∃ l, aL r 0 = l + 1 := ⟨aL r 0 - 1, by omega⟩
    rw [hR.2.2, e, rn_div h4, Nat.add_sub_cancel]
  · show aP r + 2 * (aL r 0 - 1) < aP r + 2 * aL r 0
    have := hT 0 n0
    omega
theorem step_2 {p : Nat} {rf : Nat → Nat} {r : Rc} (h4 : ∀ i, rf i < 4) (h : aOk p rf r) (hE : aEnd (aN r) (aB r) = true) (hP : 1 < aP r) : aOk p rf (wAl r (aP r - 1) (aL r) (fun i => aB r i / 4 + rf (aP r - 1) * 4 ^ (aL r i - 1))) ∧ mu (wAl r (aP r - 1) (aL r) (fun i => aB r i / 4 + rf (aP r - 1) * 4 ^ (aL r i - 1))) < mu r := by
  obtain ⟨hn, hA, hR, hV⟩ := h
  rw [aEnd_t] at hE
  have n0 : 0 < aN r := by omega
  have hb := h4 (aP r - 1)
  refine ⟨⟨hn, ⟨fun i hi => ?_, fun i j hi hj h1 h2 => ?_⟩, ⟨?_, ?_, ?_⟩, hV⟩, ?_⟩
  · have hi' : i < aN r := hi
    obtain ⟨a, b, c⟩ := hA.1 i hi'
    refine ⟨a, b, ?_⟩
    show aB r i / 4 + rf (aP r - 1) * 4 ^ (aL r i - 1) < 4 ^ aL r i
    obtain ⟨l, e⟩ : ∃ l, aL r i = l + 1 := ⟨aL r i - 1, by omega⟩
    rw [e, p4_s] at c
    rw [e, Nat.add_sub_cancel, p4_s]
    have : rf (aP r - 1) * 4 ^ l ≤ 3 * 4 ^ l := Nat.mul_le_mul_right _ (by omega)
    omega
  · have hi' : i < aN r := hi
    have hj' : j < aN r := hj
    have h1' : aL r i = aL r j := h1
    have h2' : aB r i / 4 + rf (aP r - 1) * 4 ^ (aL r i - 1) = aB r j / 4 + rf (aP r - 1) * 4 ^ (aL r j - 1) := h2
    rw [h1'] at h2'
    have a3 := hE i hi'
    have a4 := hE j hj'
    exact hA.2 i j hi' hj' h1' (by omega)
  · show 1 ≤ aP r - 1
    omega
  · have := hR.2.1
    show aP r - 1 + aL r 0 ≤ p + 1
    omega
  · show aB r 0 / 4 + rf (aP r - 1) * 4 ^ (aL r 0 - 1) = rn rf (aP r - 1) (aL r 0)
    have := (hA.1 0 n0).1
    obtain ⟨l, e⟩ : ∃ l, aL r 0 = l + 1 := ⟨aL r 0 - 1, by omega⟩
    rw [hR.2.2, e, rn_div h4, Nat.add_sub_cancel, rn_front, show aP r - 1 + 1 = aP r by omega]
    omega
  · show aP r - 1 + 2 * aL r 0 < aP r + 2 * aL r 0
    omega
theorem step_3 {p : Nat} {rf : Nat → Nat} {r : Rc} (h4 : ∀ i, rf i < 4) (h : aOk p rf r) (hT : aTwo (aN r) (aL r) = true) (hF : aFst (aN r) (aL r) (aB r) = true) : aOk p rf (wAl r (aP r + 1) (fun i => aL r i - 1) (fun i => aB r i % 4 ^ (aL r i - 1))) ∧ mu (wAl r (aP r + 1) (fun i => aL r i - 1) (fun i => aB r i % 4 ^ (aL r i - 1))) < mu r := by
  obtain ⟨hn, hA, hR, hV⟩ := h
  rw [aFst_t] at hF
  rw [aTwo_t] at hT
  have n0 : 0 < aN r := by omega
  refine ⟨⟨hn, ⟨fun i hi => ?_, fun i j hi hj h1 h2 => ?_⟩, ⟨?_, ?_, ?_⟩, hV⟩, ?_⟩
  · have hi' : i < aN r := hi
    obtain ⟨a, b, c⟩ := hA.1 i hi'
    have := hT i hi'
    exact ⟨by show 1 ≤ aL r i - 1; omega, by show aL r i - 1 ≤ 8; omega, Nat.mod_lt _ (p4_pos _)⟩
  · have hi' : i < aN r := hi
    have hj' : j < aN r := hj
    have h1' : aL r i - 1 = aL r j - 1 := h1
    have h2' : aB r i % 4 ^ (aL r i - 1) = aB r j % 4 ^ (aL r j - 1) := h2
    have a1 := hT i hi'
    have a2 := hT j hj'
    have a3 : fst (aL r) (aB r) i = fst (aL r) (aB r) j := (hF i hi').trans (hF j hj').symm
    have b1 := (hA.1 i hi').2.2
    have b2 := (hA.1 j hj').2.2
    have hl : aL r i = aL r j := by omega
    refine hA.2 i j hi' hj' hl ?_
    unfold fst at a3
    rw [hl] at a3 h2' b1
    obtain ⟨l, e⟩ : ∃ l, aL r j = l + 1 := ⟨aL r j - 1, by omega⟩
    rw [e] at a3 h2' b1 b2
    rw [Nat.add_sub_cancel] at a3 h2'
    rw [p4_s, Nat.mul_comm] at b1 b2
    have d1 : aB r i / 4 ^ l < 4 := Nat.div_lt_of_lt_mul b1
    have d2 : aB r j / 4 ^ l < 4 := Nat.div_lt_of_lt_mul b2
    rw [Nat.mod_eq_of_lt d1, Nat.mod_eq_of_lt d2] at a3
    have m1' := Nat.div_add_mod (aB r i) (4 ^ l)
    have m2' := Nat.div_add_mod (aB r j) (4 ^ l)
    rw [a3, h2', m2'] at m1'
    exact m1'.symm
  · show 1 ≤ aP r + 1
    omega
  · have := hR.2.1
    have := hT 0 n0
    show aP r + 1 + (aL r 0 - 1) ≤ p + 1
    omega
  · show aB r 0 % 4 ^ (aL r 0 - 1) = rn rf (aP r + 1) (aL r 0 - 1)
    have := hT 0 n0
    obtain ⟨l, e⟩ : ∃ l, aL r 0 = l + 1 := ⟨aL r 0 - 1, by omega⟩
    rw [hR.2.2, e, Nat.add_sub_cancel, rn_mod h4]
  · show aP r + 1 + 2 * (aL r 0 - 1) < aP r + 2 * aL r 0
    have := hT 0 n0
    omega
theorem step_ok {p : Nat} {rf : Nat → Nat} {r r' : Rc} (h4 : ∀ i, rf i < 4) (h : aOk p rf r) (he : rStep rf r = some r') : aOk p rf r' ∧ mu r' < mu r := by
  unfold rStep at he
  by_cases c1 : aEnd (aN r) (aB r) = true ∧ (aTwo (aN r) (aL r) = true ∨ 1 < aP r)
  · rw [if_pos c1] at he
    by_cases c2 : aTwo (aN r) (aL r) = true
    · rw [if_pos c2] at he; cases he; exact step_1 h4 h c1.1 c2
    · rw [if_neg c2] at he; cases he; exact step_2 h4 h c1.1 (c1.2.resolve_left c2)
  · rw [if_neg c1] at he
    by_cases c2 : aTwo (aN r) (aL r) = true ∧ aFst (aN r) (aL r) (aB r) = true
    · rw [if_pos c2] at he; cases he; exact step_3 h4 h c2.1 c2.2
    · rw [if_neg c2] at he; cases he
theorem trim_ok {p : Nat} {rf : Nat → Nat} (h4 : ∀ i, rf i < 4) : ∀ m r, aOk p rf r → aOk p rf (rTrim rf m r) := by
  intro m
  induction m with
  | zero => intro r h; exact h
  | succ m ih =>
    intro r h
    unfold rTrim
    cases e : rStep rf r with
    | none => exact h
    | some r' => exact ih r' (step_ok h4 h e).1
/-- enough steps are enough -/
theorem trim_st {p : Nat} {rf : Nat → Nat} (h4 : ∀ i, rf i < 4) : ∀ m m' r, aOk p rf r → mu r ≤ m → mu r ≤ m' → rTrim rf m r = rTrim rf m' r := by
  intro m
  induction m with
  | zero =>
    intro m' r h h1 h2
    exfalso
    have := h.2.2.1.1
    unfold mu at h1
    omega
  | succ m ih =>
    intro m' r h h1 h2
    cases m' with
    | zero =>
      exfalso
      have := h.2.2.1.1
      unfold mu at h2
      omega
    | succ m' =>
      unfold rTrim
      cases e : rStep rf r with
      | none => rfl
      | some r' =>
        obtain ⟨a, b⟩ := step_ok h4 h e
        exact ih m' r' a (by omega) (by omega)
theorem mu_le {p : Nat} {rf : Nat → Nat} {r : Rc} (hp : p ≤ 160) (h : aOk p rf r) : mu r ≤ 177 := by
  have h1 := (ok31 hp h).1
  have h2 := (h.2.1.1 0 (by have := h.1.1; omega)).2.1
  unfold mu
  omega
