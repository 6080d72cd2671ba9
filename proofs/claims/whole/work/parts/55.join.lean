set_option maxRecDepth 20000
/-! Joining in numbers. -/
theorem rn_split (rf : Nat → Nat) (p a : Nat) : ∀ d, rn rf p (a + d) = rn rf p a * 4 ^ d + rn rf (p + a) d := by
  intro d
  induction d with
  | zero => simp [rn]
  | succ d ih =>
    rw [← Nat.add_assoc, rn, ih, rn, p4_s, Nat.mul_add, Nat.add_assoc p a d, Nat.mul_left_comm]
    omega
/-- what gathering keeps -/
def jInv (n1 : Nat) (Lx Bx Ly By : Nat → Nat) (a n : Nat) (L B w : Nat → Nat) : Prop :=
  (n1 ≤ n ∧ n ≤ 4) ∧ (∀ i, i < n1 → L i = Lx i ∧ B i = Bx i) ∧ (∀ b, b < a → w b < n ∧ L (w b) = Ly b ∧ B (w b) = By b) ∧ (∀ k, n1 ≤ k → k < n → ∃ b, b < a ∧ w b = k) ∧ ∀ i j, i < n → j < n → L i = L j → B i = B j → i = j
theorem jInv_found {n1 a n k : Nat} {Lx Bx Ly By L B w : Nat → Nat} (h : jInv n1 Lx Bx Ly By a n L B w) (hk : fnd n L B (Ly a) (By a) = some k) : jInv n1 Lx Bx Ly By (a + 1) n L B (va_up w a k) := by
  obtain ⟨h1, h2, h3, h4, h5⟩ := h
  obtain ⟨k1, k2, k3⟩ := fnd_some hk
  refine ⟨h1, h2, fun b hb => ?_, fun q q1 q2 => ?_, h5⟩
  · rw [up_at]
    by_cases e : b = a
    · rw [if_pos e, e]; exact ⟨k1, k2, k3⟩
    · rw [if_neg e]; exact h3 b (by omega)
  · obtain ⟨b, b1, b2⟩ := h4 q q1 q2
    refine ⟨b, by omega, ?_⟩
    rw [up_at, if_neg (by omega)]
    exact b2
theorem jInv_new {n1 a n : Nat} {Lx Bx Ly By L B w : Nat → Nat} (h : jInv n1 Lx Bx Ly By a n L B w) (hk : fnd n L B (Ly a) (By a) = none) (hn : ¬ n = 4) : jInv n1 Lx Bx Ly By (a + 1) (n + 1) (va_up L n (Ly a)) (va_up B n (By a)) (va_up w a n) := by
  obtain ⟨h1, h2, h3, h4, h5⟩ := h
  have hno := fnd_none.mp hk
  refine ⟨by omega, fun i hi => ?_, fun b hb => ?_, fun q q1 q2 => ?_, fun i j hi hj e1 e2 => ?_⟩
  · rw [up_at, up_at, if_neg (by omega), if_neg (by omega)]; exact h2 i hi
  · by_cases e : b = a
    · have : va_up w a n b = n := by rw [up_at, if_pos e]
      rw [this, up_at, up_at, if_pos rfl, if_pos rfl, e]
      exact ⟨by omega, rfl, rfl⟩
    · have : va_up w a n b = w b := by rw [up_at, if_neg e]
      obtain ⟨g1, g2, g3⟩ := h3 b (by omega)
      rw [this, up_at, up_at, if_neg (by omega), if_neg (by omega)]
      exact ⟨by omega, g2, g3⟩
  · by_cases e : q = n
    · exact ⟨a, by omega, by rw [up_at, if_pos rfl, e]⟩
    · obtain ⟨b, b1, b2⟩ := h4 q q1 (by omega)
      exact ⟨b, by omega, by rw [up_at, if_neg (by omega)]; exact b2⟩
  · rw [up_at, up_at] at e1
    rw [up_at, up_at] at e2
    by_cases c1 : i = n <;> by_cases c2 : j = n
    · omega
    · rw [if_pos c1, if_neg c2] at e1 e2
      exact absurd ⟨e1.symm, e2.symm⟩ (hno j (by omega))
    · rw [if_neg c1, if_pos c2] at e1 e2
      exact absurd ⟨e1, e2⟩ (hno i (by omega))
    · rw [if_neg c1, if_neg c2] at e1 e2
      exact h5 i j (by omega) (by omega) e1 e2
theorem jAdd_f {Ly By : Nat → Nat} {m a n k : Nat} {L B w : Nat → Nat} (hk : fnd n L B (Ly a) (By a) = some k) : jAdd Ly By (m + 1) a n L B w = jAdd Ly By m (a + 1) n L B (va_up w a k) := by
  rw [jAdd, hk]
theorem jAdd_4 {Ly By : Nat → Nat} {m a n : Nat} {L B w : Nat → Nat} (hk : fnd n L B (Ly a) (By a) = none) (hn : n = 4) : jAdd Ly By (m + 1) a n L B w = none := by
  rw [jAdd, hk]
  exact if_pos hn
theorem jAdd_n {Ly By : Nat → Nat} {m a n : Nat} {L B w : Nat → Nat} (hk : fnd n L B (Ly a) (By a) = none) (hn : ¬ n = 4) : jAdd Ly By (m + 1) a n L B w = jAdd Ly By m (a + 1) (n + 1) (va_up L n (Ly a)) (va_up B n (By a)) (va_up w a n) := by
  rw [jAdd, hk]
  exact if_neg hn
theorem jAdd_inv {n1 : Nat} {Lx Bx Ly By : Nat → Nat} : ∀ m a n L B w t, jInv n1 Lx Bx Ly By a n L B w → jAdd Ly By m a n L B w = some t → jInv n1 Lx Bx Ly By (a + m) t.1 t.2.1 t.2.2.1 t.2.2.2 := by
  intro m
  induction m with
  | zero =>
    intro a n L B w t h e
    cases e
    exact h
  | succ m ih =>
    intro a n L B w t h e
    rw [show a + (m + 1) = a + 1 + m by omega]
    cases hk : fnd n L B (Ly a) (By a) with
    | some k =>
      rw [jAdd_f hk] at e
      exact ih _ _ _ _ _ _ (jInv_found h hk) e
    | none =>
      by_cases c : n = 4
      · rw [jAdd_4 hk c] at e; cases e
      · rw [jAdd_n hk c] at e
        exact ih _ _ _ _ _ _ (jInv_new h hk c) e
/-- the lengthened alleles of two records of one place -/
theorem j_len {r o : Rc} (hA : aAl (aN r) (aL r) (aB r)) : (∀ i, i < aN r → 1 ≤ jL r o i ∧ jB r o i < 4 ^ jL r o i) ∧ ∀ i j, i < aN r → j < aN r → jL r o i = jL r o j → jB r o i = jB r o j → i = j := by
  refine ⟨fun i hi => ?_, fun i j hi hj e1 e2 => ?_⟩
  · obtain ⟨a, b, c⟩ := hA.1 i hi
    refine ⟨by unfold jL; omega, ?_⟩
    unfold jL jB
    have h1 : aB o 0 % 4 ^ (aL o 0 - aL r 0) < 4 ^ (aL o 0 - aL r 0) := Nat.mod_lt _ (p4_pos _)
    rw [Nat.pow_add]
    have h2 : (aB r i + 1) * 4 ^ (aL o 0 - aL r 0) ≤ 4 ^ aL r i * 4 ^ (aL o 0 - aL r 0) := Nat.mul_le_mul_right _ c
    rw [Nat.add_mul, Nat.one_mul] at h2
    omega
  · unfold jL at e1
    unfold jB at e2
    have e3 : aB r i * 4 ^ (aL o 0 - aL r 0) = aB r j * 4 ^ (aL o 0 - aL r 0) := by omega
    exact hA.2 i j hi hj (by omega) (Nat.eq_of_mul_eq_mul_right (p4_pos _) e3)
theorem j_ref {p : Nat} {rf : Nat → Nat} {x y : Rc} (h4 : ∀ i, rf i < 4) (hx : aRf p rf x) (hy : aRf p rf y) (hP : aP y = aP x) : jL x y 0 = max (aL x 0) (aL y 0) ∧ jB x y 0 = rn rf (aP x) (max (aL x 0) (aL y 0)) := by
  obtain ⟨-, -, hx3⟩ := hx
  obtain ⟨-, -, hy3⟩ := hy
  unfold jL jB
  by_cases c : aL x 0 ≤ aL y 0
  · have e : aL y 0 = aL x 0 + (aL y 0 - aL x 0) := by omega
    refine ⟨by omega, ?_⟩
    rw [show max (aL x 0) (aL y 0) = aL x 0 + (aL y 0 - aL x 0) by omega, rn_split, ← hx3]
    congr 1
    have e2 : aB y 0 = rn rf (aP x) (aL x 0) * 4 ^ (aL y 0 - aL x 0) + rn rf (aP x + aL x 0) (aL y 0 - aL x 0) := by
      rw [hy3, hP, ← rn_split, ← e]
    rw [e2, Nat.add_comm, Nat.add_mul_mod_self_right]
    exact Nat.mod_eq_of_lt (rn_lt h4 _ _)
  · have e : aL y 0 - aL x 0 = 0 := by omega
    rw [e, Nat.pow_zero, Nat.mul_one, Nat.mod_one]
    refine ⟨by omega, ?_⟩
    rw [show max (aL x 0) (aL y 0) = aL x 0 by omega, Nat.add_zero]
    exact hx3
theorem j_ref2 {p : Nat} {rf : Nat → Nat} {x y : Rc} (h4 : ∀ i, rf i < 4) (hx : aRf p rf x) (hy : aRf p rf y) (hP : aP y = aP x) : jL y x 0 = jL x y 0 ∧ jB y x 0 = jB x y 0 := by
  obtain ⟨a1, a2⟩ := j_ref h4 hx hy hP
  obtain ⟨b1, b2⟩ := j_ref h4 hy hx hP.symm
  rw [a1, a2, b1, b2, hP, Nat.max_comm]
  exact ⟨rfl, rfl⟩
theorem jInv_0 {x y : Rc} (hn : aN x ≤ 4) (hA : aAl (aN x) (aL x) (aB x)) (w : Nat → Nat) : jInv (aN x) (jL x y) (jB x y) (jL y x) (jB y x) 0 (aN x) (jL x y) (jB x y) w :=
  ⟨⟨Nat.le_refl _, hn⟩, fun i hi => ⟨rfl, rfl⟩, fun b hb => by omega, fun k k1 k2 => by omega, (j_len hA).2⟩
/-- what is known of the numbers at the end -/
theorem jInv_w {p : Nat} {rf : Nat → Nat} {x y : Rc} {n : Nat} {L B w : Nat → Nat} (h4 : ∀ i, rf i < 4) (hx : aOk p rf x) (hy : aOk p rf y) (hP : aP y = aP x) (h : jInv (aN x) (jL x y) (jB x y) (jL y x) (jB y x) (aN y) n L B w) : w 0 = 0 ∧ ∀ b c, b < aN y → c < aN y → w b = w c → b = c := by
  obtain ⟨h1, h2, h3, h4', h5⟩ := h
  have hx1 := hx.1.1
  have hy1 := hy.1.1
  obtain ⟨r1, r2⟩ := j_ref2 h4 hx.2.2.1 hy.2.2.1 hP
  refine ⟨?_, fun b c hb hc e => ?_⟩
  · obtain ⟨a, b, c⟩ := h3 0 (by omega)
    obtain ⟨d, e⟩ := h2 0 (by omega)
    exact h5 _ _ a (by omega) (by rw [b, d, r1]) (by rw [c, e, r2])
  · obtain ⟨-, b1, b2⟩ := h3 b hb
    obtain ⟨-, c1, c2⟩ := h3 c hc
    rw [e] at b1 b2
    exact (j_len hy.2.1).2 b c hb hc (b1.symm.trans c1) (b2.symm.trans c2)
theorem bkA_some {w : Nat → Nat} {k a : Nat} : ∀ m j, bkA w k m j = some a → j ≤ a ∧ a < j + m ∧ w a = k := by
  intro m
  induction m with
  | zero => intro j h; cases h
  | succ m ih =>
    intro j h
    unfold bkA at h
    by_cases c : w j = k
    · rw [if_pos c] at h; cases h; exact ⟨Nat.le_refl _, by omega, c⟩
    · rw [if_neg c] at h
      have := ih _ h
      exact ⟨by omega, by omega, this.2.2⟩
theorem bkA_none {w : Nat → Nat} {k : Nat} : ∀ m j, bkA w k m j = none → ∀ a, j ≤ a → a < j + m → w a ≠ k := by
  intro m
  induction m with
  | zero => intro j _ a h1 h2; omega
  | succ m ih =>
    intro j h a h1 h2
    unfold bkA at h
    by_cases c : w j = k
    · rw [if_pos c] at h; cases h
    · rw [if_neg c] at h
      by_cases e : a = j
      · rw [e]; exact c
      · exact ih _ h a (by omega) (by omega)
theorem bk_some {w : Nat → Nat} {n k a : Nat} (h : bk w n k = some a) : a < n ∧ w a = k := by
  have := bkA_some _ _ h
  exact ⟨by omega, this.2.2⟩
theorem bk_none {w : Nat → Nat} {n k : Nat} (h : bk w n k = none) : ∀ a, a < n → w a ≠ k := fun a ha => bkA_none _ _ h a (by omega) (by omega)
theorem bk_of {w : Nat → Nat} {n a : Nat} (hi : ∀ b c, b < n → c < n → w b = w c → b = c) (ha : a < n) : bk w n (w a) = some a := by
  cases e : bk w n (w a) with
  | none => exact absurd rfl (bk_none e a ha)
  | some b =>
    obtain ⟨b1, b2⟩ := bk_some e
    rw [hi b a b1 ha b2]
theorem pp_lt : ∀ i, i < 10 → ppJ i ≤ ppK i ∧ ppK i < 4 ∧ prn (ppJ i) (ppK i) = i ∧ prn (ppK i) (ppJ i) = i := by decide +kernel
theorem pp_n : ∀ n, n ≤ 4 → ∀ i, i < 10 → (i < prs n ↔ ppK i < n) := by decide +kernel
theorem pp_10 : ∀ m, m < 2 → ∀ i, i < 10 → ppJ (10 * m + i) = ppJ i ∧ ppK (10 * m + i) = ppK i ∧ (10 * m + i) / 10 * 10 = 10 * m := by decide +kernel
theorem prn_injF : ∀ a b c d : Fin 4, prn a.val b.val = prn c.val d.val → (a = c ∧ b = d) ∨ (a = d ∧ b = c) := by decide +kernel
theorem prn_inj {a b c d : Nat} (ha : a < 4) (hb : b < 4) (hc : c < 4) (hd : d < 4) (e : prn a b = prn c d) : (a = c ∧ b = d) ∨ (a = d ∧ b = c) := by
  rcases prn_injF ⟨a, ha⟩ ⟨b, hb⟩ ⟨c, hc⟩ ⟨d, hd⟩ e with ⟨q1, q2⟩ | ⟨q1, q2⟩
  · exact Or.inl ⟨congrArg Fin.val q1, congrArg Fin.val q2⟩
  · exact Or.inr ⟨congrArg Fin.val q1, congrArg Fin.val q2⟩
theorem prn_comm : ∀ a, a < 4 → ∀ b, b < 4 → prn a b = prn b a := by decide +kernel
theorem prn_prs : ∀ n, n ≤ 4 → ∀ a, a < n → ∀ b, b < n → prn a b < prs n := by decide +kernel
/-- a joined record is sound -/
theorem j_ok {p : Nat} {rf : Nat → Nat} {x y : Rc} {n : Nat} {L B w : Nat → Nat} (h4 : ∀ i, rf i < 4) (hx : aOk p rf x) (hy : aOk p rf y) (hP : aP y = aP x) (h8x : ∀ i, i < aN x → jL x y i ≤ 8) (h8y : ∀ i, i < aN y → jL y x i ≤ 8) (h : jInv (aN x) (jL x y) (jB x y) (jL y x) (jB y x) (aN y) n L B w) : aOk p rf (jRec x y n L B w) := by
  obtain ⟨w0, winj⟩ := jInv_w h4 hx hy hP h
  obtain ⟨h1, h2, h3, h4', h5⟩ := h
  have hx1 := hx.1.1
  have hy1 := hy.1.1
  obtain ⟨r1, r2⟩ := j_ref h4 hx.2.2.1 hy.2.2.1 hP
  obtain ⟨vx1, vx2, vx3, vx4, vx5⟩ := hx.2.2.2
  obtain ⟨vy1, vy2, vy3, vy4, vy5⟩ := hy.2.2.2
  refine ⟨⟨by show 2 ≤ n; omega, h1.2⟩, ⟨fun i hi => ?_, h5⟩, ⟨hx.2.2.1.1, ?_, ?_⟩, ?_, fun i hi => ?_, fun i hi => ?_, fun i hi => ?_, fun i hi => ?_⟩
  · have hi' : i < n := hi
    show 1 ≤ L i ∧ L i ≤ 8 ∧ B i < 4 ^ L i
    by_cases c : i < aN x
    · obtain ⟨e1, e2⟩ := h2 i c
      obtain ⟨a, b⟩ := (j_len (o := y) hx.2.1).1 i c
      rw [e1, e2]
      exact ⟨a, h8x i c, b⟩
    · obtain ⟨b, b1, b2⟩ := h4' i (by omega) hi'
      obtain ⟨-, e1, e2⟩ := h3 b b1
      rw [b2] at e1 e2
      obtain ⟨a, b'⟩ := (j_len (o := x) hy.2.1).1 b b1
      rw [e1, e2]
      exact ⟨a, h8y b b1, b'⟩
  · show aP x + L 0 ≤ p + 1
    rw [(h2 0 (by omega)).1, r1]
    have a1 := hx.2.2.1.2.1
    have a2 := hy.2.2.1.2.1
    omega
  · show B 0 = rn rf (aP x) (L 0)
    rw [(h2 0 (by omega)).1, (h2 0 (by omega)).2, r1, r2]
  · show max (aQ x) (aQ y) ≤ 8000
    omega
  · show (if i = 0 then max (aD x 0) (aD y 0) else min 9999 ((if i < aN x then aD x i else 0) + bkD y w i)) ≤ 9999
    split
    · have := vx2 0 (by omega)
      have := vy2 0 (by omega)
      omega
    · omega
  · show (if 1 < aG x i then aG x i else if aG y i = 0 then aG x i else w (aG y i - 1) + 1) ≤ n
    have a1 := vx3 i hi
    have a2 := vy3 i hi
    split
    · omega
    · split
      · omega
      · have := (h3 (aG y i - 1) (by omega)).1
        omega
  · show aH x i * aH y i ≤ 1
    have a1 := vx4 i hi
    have a2 := vy4 i hi
    exact Nat.le_trans (Nat.mul_le_mul a1 a2) (by decide)
  · have hi' : i < prs n := hi
    have p10 := prs_le h1.2
    have hl : ∀ m, m < 2 → lk1 x (10 * m + i) ≤ 999 := by
      intro m hm
      unfold lk1
      obtain ⟨e1, e2, e3⟩ := pp_10 m hm i (by omega)
      rw [e2]
      split
      · next c =>
        have := vx5 i ((pp_n (aN x) hx.1.2 i (by omega)).mpr c)
        rcases (show m = 0 ∨ m = 1 by omega) with e | e <;> subst e
        · rw [Nat.mul_zero, Nat.zero_add]; exact this.1
        · rw [Nat.mul_one]; exact this.2
      · omega
    have l0 := hl 0 (by omega)
    have l1 := hl 1 (by omega)
    rw [Nat.mul_zero, Nat.zero_add] at l0
    rw [Nat.mul_one] at l1
    show min (lk1 x i) (lk2 y w i) ≤ 999 ∧ min (lk1 x (10 + i)) (lk2 y w (10 + i)) ≤ 999
    omega
