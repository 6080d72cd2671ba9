set_option maxRecDepth 20000
/-! The state stays sound. -/
section X1
variable {s : As} {r : Rc} {p : Nat} {rf : Nat → Nat}
theorem x_list {l : List Rc} (hs : xOk s) (h1 : ∀ r, r ∈ l → aOk (xP s) (xF s) r) (h2 : l.length ≤ 24) : xOk (wList s l) := ⟨hs.1, hs.2.1, hs.2.2.1, h1, h2, hs.2.2.2.2.2⟩
theorem x_draft (hs : xOk s) (h : aDok (xP s) (xF s) r) : xOk (wDraft s true r) := ⟨hs.1, hs.2.1, fun _ => h, hs.2.2.2⟩
theorem x_nodraft (hs : xOk s) : xOk (wDraft s false r) := ⟨hs.1, hs.2.1, fun e => (by cases e), hs.2.2.2⟩
theorem insR_mem {l : List Rc} {t : Rc} (h : t ∈ insR l r) : t = r ∨ t ∈ l := (List.mem_insertIdx (ipos_le l _)).mp h
theorem insR_len {l : List Rc} : (insR l r).length = l.length + 1 := List.length_insertIdx_of_le_length (ipos_le l _) _
theorem X_reference {b : Int64} {n : Int32} (hs : xOk s) : xOk (o_reference s b n).2.2 := by
  unfold o_reference
  split
  · exact hs
  · split
    · exact hs
    · rename_i c1 c2
      have d1 : xD s = false := by
        cases e : xD s with
        | true => exact absurd (Or.inl e) c2
        | false => rfl
      have d2 : (xL s).length = 0 := Classical.byContradiction (fun q => c2 (Or.inr (Or.inl q)))
      have d3 : ¬ 160 < xP s + tn n := fun q => c2 (Or.inr (Or.inr q))
      have d2' : xL s = [] := List.length_eq_zero_iff.mp d2
      refine ⟨Nat.not_lt.mp d3, fun i => ?_, fun e => ?_, fun r hr => ?_, hs.2.2.2.2⟩
      · show (if xP s < i ∧ i ≤ xP s + tn n then dg b (xP s + tn n - i) else xF s i) < 4
        split
        · exact dg_lt _ _
        · exact hs.2.1 i
      · have e' : xD s = true := e
        rw [d1] at e'
        cases e'
      · have hr' : r ∈ xL s := hr
        rw [d2'] at hr'
        cases hr'
theorem X_draft {a l : Int32} (hs : xOk s) : xOk (o_draft s a l).2 := by
  unfold o_draft
  split
  · exact hs
  · rename_i c
    have c1 : ¬ l < nI 1 := fun q => c (Or.inl q)
    have c2 : ¬ nI 8 < l := fun q => c (Or.inr (Or.inl q))
    have c3 : ¬ a < nI 1 := fun q => c (Or.inr (Or.inr (Or.inl q)))
    have c4 : ¬ nI (xP s) - l + nI 1 < a := fun q => c (Or.inr (Or.inr (Or.inr q)))
    have hp := hs.1
    obtain ⟨ln, rfl, b1, b2⟩ := in_of (by omega) c1 c2 (by omega)
    obtain ⟨e1, e2⟩ := nI_tn (x := a) (fun q => c3 (Int32.lt_trans q (by decide)))
    obtain ⟨pn, epn⟩ : ∃ k, k = tn a := ⟨_, rfl⟩
    rw [← epn] at e1 e2 ⊢
    subst e1
    rw [lt_sub1 hp (by omega) (by omega)] at c4
    rw [nI_ltI (by omega) (by omega)] at c3
    rw [tn_nI (by omega)]
    refine x_draft hs ⟨⟨?_, ?_⟩, ⟨fun i hi => ?_, fun i j hi hj _ _ => ?_⟩, ⟨?_, ?_, rfl⟩, ⟨?_, fun i hi => ?_, fun i hi => ?_, fun i hi => ?_, fun i hi => ⟨?_, ?_⟩⟩, fun i _ _ => rfl, fun i hi => ?_⟩
    · show 1 ≤ 1; omega
    · show 1 ≤ 4; omega
    · exact ⟨b1, b2, rn_lt hs.2.1 _ _⟩
    · have h1 : i < 1 := hi
      have h2 : j < 1 := hj
      omega
    · show 1 ≤ pn; omega
    · show pn + ln ≤ xP s + 1; omega
    · exact Nat.zero_le _
    · exact Nat.zero_le _
    · exact Nat.zero_le _
    · exact Nat.zero_le _
    · exact Nat.zero_le _
    · exact Nat.zero_le _
    · exact Nat.zero_le _
theorem up_ne {f : Nat → Nat} {k x i : Nat} (h : i ≠ k) : va_up f k x i = f i := by simp only [va_up, h, ↓reduceIte]
theorem up_eq {f : Nat → Nat} {k x : Nat} : va_up f k x k = x := by simp only [va_up, ↓reduceIte]
theorem X_allele {b : Int64} {n : Int32} (hs : xOk s) : xOk (o_allele s b n).2.2 := by
  unfold o_allele
  split
  · exact hs
  · split
    · exact hs
    · rename_i c1 c2
      obtain ⟨nn, rfl, b1, b2⟩ := in_of (by omega) (fun q => c1 (Or.inl q)) (fun q => c1 (Or.inr q)) (by omega)
      rw [tn_nI (by omega)] at c2 ⊢
      have d : xD s = true := by
        cases e : xD s with
        | true => rfl
        | false => exact absurd (Or.inl e) c2
      have d4 : ¬ aN (xR s) = 4 := fun q => c2 (Or.inr (Or.inl q))
      have d5 : hasA (aN (xR s)) (aL (xR s)) (aB (xR s)) nn (b.toBitVec.toNat % 4 ^ nn) = false := by
        cases e : hasA (aN (xR s)) (aL (xR s)) (aB (xR s)) nn (b.toBitVec.toNat % 4 ^ nn) with
        | false => rfl
        | true => exact absurd (Or.inr (Or.inr e)) c2
      obtain ⟨h1, h2, h3, h4, h5, h6⟩ := hs.2.2.1 d
      have fn := hasA_f.mp d5
      have p10 := prs_le (n := aN (xR s) + 1) (by omega)
      refine x_draft hs ⟨⟨?_, ?_⟩, aAl_up h2 b1 b2 (Nat.mod_lt _ (p4_pos nn)) fn, ⟨h3.1, ?_, ?_⟩, ⟨h4.1, fun i hi => ?_, fun i hi => ?_, h4.2.2.2.1, fun i hi => ⟨?_, ?_⟩⟩, fun i h7 h8 => ?_, h6⟩
      · show 1 ≤ aN (xR s) + 1; omega
      · show aN (xR s) + 1 ≤ 4; omega
      · show aP (xR s) + va_up (aL (xR s)) (aN (xR s)) nn 0 ≤ _
        rw [up_ne (by omega)]; exact h3.2.1
      · show va_up (aB (xR s)) (aN (xR s)) _ 0 = rn (xF s) (aP (xR s)) (va_up (aL (xR s)) (aN (xR s)) nn 0)
        rw [up_ne (by omega), up_ne (by omega)]; exact h3.2.2
      · show va_up (aD (xR s)) (aN (xR s)) 0 i ≤ 9999
        have hi' : i < aN (xR s) + 1 := hi
        by_cases e : i = aN (xR s)
        · rw [e, up_eq]; omega
        · rw [up_ne e]; exact h4.2.1 i (by omega)
      · show aG (xR s) i ≤ aN (xR s) + 1
        have := h4.2.2.1 i hi
        omega
      · have hi' : i < prs (aN (xR s) + 1) := hi
        exact h6 i (by omega)
      · have hi' : i < prs (aN (xR s) + 1) := hi
        exact h6 (10 + i) (by omega)
      · show va_up (aD (xR s)) (aN (xR s)) 0 i = 0
        have h7' : aN (xR s) + 1 ≤ i := h7
        rw [up_ne (by omega)]
        exact h5 i (by omega) h8
theorem X_depth {a d q : Int32} (hs : xOk s) : xOk (o_depth s a d q).2 := by
  unfold o_depth
  split
  · exact hs
  · rename_i c
    have d0 : xD s = true := by
      cases e : xD s with
      | true => rfl
      | false => exact absurd (Or.inl e) c
    obtain ⟨h1, h2, h3, h4, h5, h6⟩ := hs.2.2.1 d0
    obtain ⟨an, rfl, -, b1⟩ := in_of' (by omega) (fun e => c (Or.inr (Or.inl e))) (fun e => c (Or.inr (Or.inr (Or.inl e)))) (by omega)
    obtain ⟨dn, rfl, -, b2⟩ := in_of (by omega) (fun e => c (Or.inr (Or.inr (Or.inr (Or.inl e))))) (fun e => c (Or.inr (Or.inr (Or.inr (Or.inr (Or.inl e)))))) (by omega)
    obtain ⟨qn, rfl, -, b3⟩ := in_of (by omega) (fun e => c (Or.inr (Or.inr (Or.inr (Or.inr (Or.inr (Or.inl e))))))) (fun e => c (Or.inr (Or.inr (Or.inr (Or.inr (Or.inr (Or.inr e))))))) (by omega)
    rw [tn_nI (show an < 2 ^ 31 by omega), tn_nI (show dn < 2 ^ 31 by omega), tn_nI (show qn < 2 ^ 31 by omega)]
    refine x_draft hs ⟨h1, h2, h3, ⟨b3, fun i hi => ?_, h4.2.2⟩, fun i h7 h8 => ?_, h6⟩
    · show va_up (aD (xR s)) an dn i ≤ 9999
      by_cases e : i = an
      · rw [e, up_eq]; exact b2
      · rw [up_ne e]; exact h4.2.1 i hi
    · show va_up (aD (xR s)) an dn i = 0
      have h7' : aN (xR s) ≤ i := h7
      rw [up_ne (by omega)]
      exact h5 i h7 h8
theorem X_genotype {m f g h : Int32} (hb : zBo h) (hs : xOk s) : xOk (o_genotype s m f g h).2 := by
  unfold o_genotype
  split
  · exact hs
  · rename_i c
    have d0 : xD s = true := by
      cases e : xD s with
      | true => rfl
      | false => exact absurd (Or.inl e) c
    obtain ⟨h1, h2, h3, h4, h5, h6⟩ := hs.2.2.1 d0
    obtain ⟨mn, rfl, -, b1⟩ := in_of' (by omega) (fun e => c (Or.inr (Or.inl e))) (fun e => c (Or.inr (Or.inr (Or.inl e)))) (by omega)
    obtain ⟨-, -, -, gf⟩ := gen_of (x := f) (n := aN (xR s)) (by omega) (fun e => c (Or.inr (Or.inr (Or.inr (Or.inl e))))) (fun e => c (Or.inr (Or.inr (Or.inr (Or.inr (Or.inl e))))))
    obtain ⟨-, -, -, gg⟩ := gen_of (x := g) (n := aN (xR s)) (by omega) (fun e => c (Or.inr (Or.inr (Or.inr (Or.inr (Or.inr (Or.inl e))))))) (fun e => c (Or.inr (Or.inr (Or.inr (Or.inr (Or.inr (Or.inr e)))))))
    rw [tn_nI (show mn < 2 ^ 31 by omega)]
    have th : tn h ≤ 1 := by
      rcases hb with e | e <;> rw [e] <;> decide
    refine x_draft hs ⟨h1, h2, h3, ⟨h4.1, h4.2.1, fun i hi => ?_, fun i hi => ?_, h4.2.2.2.2⟩, h5, h6⟩
    · show va_up (va_up (aG (xR s)) (2 * mn) (gN f)) (2 * mn + 1) (gN g) i ≤ aN (xR s)
      by_cases e : i = 2 * mn + 1
      · rw [e, up_eq]; exact gg
      · rw [up_ne e]
        by_cases e : i = 2 * mn
        · rw [e, up_eq]; exact gf
        · rw [up_ne e]; exact h4.2.2.1 i hi
    · show va_up (aH (xR s)) mn (tn h) i ≤ 1
      by_cases e : i = mn
      · rw [e, up_eq]; exact th
      · rw [up_ne e]; exact h4.2.2.2.1 i hi
theorem X_likelihood {m i x : Int32} (hs : xOk s) : xOk (o_likelihood s m i x).2 := by
  unfold o_likelihood
  split
  · exact hs
  · rename_i c
    have d0 : xD s = true := by
      cases e : xD s with
      | true => rfl
      | false => exact absurd (Or.inl e) c
    obtain ⟨h1, h2, h3, h4, h5, h6⟩ := hs.2.2.1 d0
    obtain ⟨xn, rfl, -, b3⟩ := in_of (by omega) (fun e => c (Or.inr (Or.inr (Or.inr (Or.inr (Or.inr (Or.inl e))))))) (fun e => c (Or.inr (Or.inr (Or.inr (Or.inr (Or.inr (Or.inr e))))))) (by omega)
    rw [tn_nI (show xn < 2 ^ 31 by omega)]
    have K : ∀ k, k < 20 → va_up (aK (xR s)) (10 * tn m + tn i) xn k ≤ 999 := by
      intro k hk
      by_cases e : k = 10 * tn m + tn i
      · rw [e, up_eq]; exact b3
      · rw [up_ne e]; exact h6 k hk
    have p10 := prs_le h1.2
    refine x_draft hs ⟨h1, h2, h3, ⟨h4.1, h4.2.1, h4.2.2.1, h4.2.2.2.1, fun k hk => ⟨?_, ?_⟩⟩, h5, K⟩
    · have hk' : k < prs (aN (xR s)) := hk
      exact K k (by omega)
    · have hk' : k < prs (aN (xR s)) := hk
      exact K (10 + k) (by omega)
theorem X_add (hs : xOk s) : xOk (o_add s).2.2 := by
  unfold o_add
  split
  · exact hs
  · rename_i c
    have d0 : xD s = true := by
      cases e : xD s with
      | true => rfl
      | false => exact absurd (Or.inl e) c
    obtain ⟨h1, h2, h3, h4, h5, h6⟩ := hs.2.2.1 d0
    have n2 : ¬ aN (xR s) < 2 := fun q => c (Or.inr (Or.inl q))
    have l24 : ¬ (xL s).length = 24 := fun q => c (Or.inr (Or.inr q))
    refine x_list (x_nodraft hs) (fun t ht => ?_) ?_
    · rcases insR_mem ht with e | e
      · rw [e]; exact ⟨⟨by omega, h1.2⟩, h2, h3, h4⟩
      · exact hs.2.2.2.1 t e
    · rw [insR_len]
      have := hs.2.2.2.2.1
      omega
theorem er_len {l : List Rc} {i : Nat} (h : l.length ≤ 24) : (l.eraseIdx i).length ≤ 24 := Nat.le_trans (List.length_eraseIdx_le l i) h
theorem X_remove {i : Int32} (hs : xOk s) : xOk (o_remove s i).2 := by
  unfold o_remove
  split
  · exact hs
  · exact x_list hs (fun t ht => hs.2.2.2.1 t (List.mem_of_mem_eraseIdx ht)) (er_len hs.2.2.2.2.1)
theorem X_normalise {i : Int32} (hs : xOk s) : xOk (o_normalise s i).2.2 := by
  unfold o_normalise
  split
  · exact hs
  · rename_i c
    have hl := hs.2.2.2.2.1
    obtain ⟨i', rfl, -, b3⟩ := in_of' (by omega) (fun e => c (Or.inl e)) (fun e => c (Or.inr e)) (by omega)
    rw [tn_nI (by omega)]
    obtain ⟨g1, g2⟩ := xAt_ok hs b3
    refine x_list hs (fun t ht => ?_) ?_
    · rcases insR_mem ht with e | e
      · rw [e]; exact trim_ok hs.2.1 1000 _ g2
      · exact hs.2.2.2.1 t (List.mem_of_mem_eraseIdx e)
    · rw [insR_len, List.length_eraseIdx_of_lt b3]
      omega
theorem part_ok {a : Nat} (h : aOk p rf r) (h1 : 1 ≤ a) (h2 : a < aN r) : aOk p rf (aPart r a) := by
  obtain ⟨k1, k2, k3, k4⟩ := h
  have ha : ∀ i, i < 2 → (if i = 0 then 0 else a) < aN r := by
    intro i hi
    split <;> omega
  have e1 : ∀ f : Nat → Nat, ∀ i, (if i = 0 then f 0 else f a) = f (if i = 0 then 0 else a) := by
    intro f i
    split <;> rfl
  have pp := prn_prs (aN r) k1.2 0 (by omega) a h2
  have qq := prn_prs (aN r) k1.2 a h2 a h2
  have zz : 0 < prs (aN r) := by omega
  refine ⟨⟨Nat.le_refl _, by show 2 ≤ 4; omega⟩, ⟨fun i hi => ?_, fun i j hi hj e2 e3 => ?_⟩, ⟨k3.1, k3.2.1, k3.2.2⟩, ⟨k4.1, fun i hi => ?_, fun i hi => ?_, k4.2.2.2.1, fun i hi => ?_⟩⟩
  · show 1 ≤ (if i = 0 then aL r 0 else aL r a) ∧ (if i = 0 then aL r 0 else aL r a) ≤ 8 ∧ (if i = 0 then aB r 0 else aB r a) < 4 ^ (if i = 0 then aL r 0 else aL r a)
    rw [e1, e1]
    exact k2.1 _ (ha i hi)
  · have e2' : (if i = 0 then aL r 0 else aL r a) = (if j = 0 then aL r 0 else aL r a) := e2
    have e3' : (if i = 0 then aB r 0 else aB r a) = (if j = 0 then aB r 0 else aB r a) := e3
    rw [e1, e1] at e2' e3'
    have := k2.2 _ _ (ha i hi) (ha j hj) e2' e3'
    have hi' : i < 2 := hi
    have hj' : j < 2 := hj
    by_cases c1 : i = 0 <;> by_cases c2 : j = 0
    · omega
    · rw [if_pos c1, if_neg c2] at this; omega
    · rw [if_neg c1, if_pos c2] at this; omega
    · omega
  · show (if i = 0 then aD r 0 else aD r a) ≤ 9999
    rw [e1]
    exact k4.2.1 _ (ha i hi)
  · show (if aG r i = 0 then 0 else if aG r i = a + 1 then 2 else 1) ≤ 2
    split
    · omega
    · split <;> omega
  · have hi' : i < 3 := Nat.lt_of_lt_of_eq hi (show prs 2 = 3 from rfl)
    have K0 := k4.2.2.2.2 0 zz
    have K1 := k4.2.2.2.2 _ pp
    have K2 := k4.2.2.2.2 _ qq
    rcases (show i = 0 ∨ i = 1 ∨ i = 2 by omega) with e | e | e <;> subst e
    · exact K0
    · refine ⟨?_, ?_⟩
      · show aK r (1 - 1 + prn 0 a) ≤ 999
        rw [show 1 - 1 + prn 0 a = prn 0 a by omega]; exact K1.1
      · show aK r (11 - 1 + prn 0 a) ≤ 999
        rw [show 11 - 1 + prn 0 a = 10 + prn 0 a by omega]; exact K1.2
    · refine ⟨?_, ?_⟩
      · show aK r (2 - 2 + prn a a) ≤ 999
        rw [show 2 - 2 + prn a a = prn a a by omega]; exact K2.1
      · show aK r (12 - 2 + prn a a) ≤ 999
        rw [show 12 - 2 + prn a a = 10 + prn a a by omega]; exact K2.2
theorem spl_ok (h : aOk p rf r) {i : Nat} : ∀ (m j : Nat) (l : List Rc), j + m < aN r → i + j ≤ l.length → (∀ t, t ∈ l → aOk p rf t) → (∀ t, t ∈ spl r i m j l → aOk p rf t) ∧ (spl r i m j l).length = l.length + m := by
  intro m
  induction m with
  | zero => intro j l _ _ hl; exact ⟨hl, rfl⟩
  | succ m ih =>
    intro j l hj hi hl
    have hlen : (l.insertIdx (i + j) (aPart r (j + 1))).length = l.length + 1 := List.length_insertIdx_of_le_length hi _
    obtain ⟨q1, q2⟩ := ih (j + 1) (l.insertIdx (i + j) (aPart r (j + 1))) (by omega) (by omega) (fun t ht => by
      rcases (List.mem_insertIdx hi).mp ht with e | e
      · rw [e]; exact part_ok h (by omega) (by omega)
      · exact hl t e)
    exact ⟨q1, by rw [spl, q2, hlen]; omega⟩
theorem X_split {i : Int32} (hs : xOk s) : xOk (o_split s i).2.2 := by
  unfold o_split
  split
  · exact hs
  · rename_i c
    have hl := hs.2.2.2.2.1
    obtain ⟨i', rfl, -, b3⟩ := in_of' (by omega) (fun e => c (Or.inl e)) (fun e => c (Or.inr e)) (by omega)
    rw [tn_nI (by omega)]
    split
    · exact hs
    · rename_i c2
      obtain ⟨g1, g2⟩ := xAt_ok hs b3
      have hle := List.length_eraseIdx_of_lt b3
      obtain ⟨q1, q2⟩ := spl_ok g2 (i := i') (aN (xAt s i') - 1) 0 ((xL s).eraseIdx i') (by have := g2.1.1; omega) (by omega) (fun t ht => hs.2.2.2.1 t (List.mem_of_mem_eraseIdx ht))
      refine x_list hs q1 ?_
      rw [q2, hle]
      have := g2.1.1
      omega
theorem X_join {i : Int32} (hs : xOk s) : xOk (o_join s i).2 := by
  unfold o_join
  split
  · exact hs
  · rename_i c
    have hl := hs.2.2.2.2.1
    obtain ⟨i', rfl, -, b3⟩ := in_of' (by omega) (fun e => c (Or.inl e)) (fun e => c (Or.inr e)) (by omega)
    rw [tn_nI (by omega)]
    split
    · exact hs
    · rename_i c2
      obtain ⟨g1, g2⟩ := xAt_ok hs b3
      obtain ⟨k1, k2⟩ := xAt_ok hs (show i' + 1 < (xL s).length by omega)
      have c3 : aP (xAt s (i' + 1)) = aP (xAt s i') := Classical.byContradiction (fun q => c2 (Or.inr q))
      cases ej : jJoin (xAt s i') (xAt s (i' + 1)) with
      | none => exact hs
      | some r =>
        have hok : aOk (xP s) (xF s) r := by
          by_cases e : (∃ i, i < aN (xAt s i') ∧ 8 < jL (xAt s i') (xAt s (i' + 1)) i) ∨ ∃ i, i < aN (xAt s (i' + 1)) ∧ 8 < jL (xAt s (i' + 1)) (xAt s i') i
          · rw [show jJoin (xAt s i') (xAt s (i' + 1)) = none from if_pos e] at ej; cases ej
          · have hjj : jJoin (xAt s i') (xAt s (i' + 1)) = _ := if_neg e
            rw [hjj] at ej
            obtain ⟨t, e1, e2⟩ := Option.map_eq_some_iff.mp ej
            have hI := jAdd_inv _ 0 _ _ _ (fun _ => 0) t (jInv_0 g2.1.2 g2.2.1 _) e1
            rw [Nat.zero_add] at hI
            rw [← e2]
            exact j_ok hs.2.1 g2 k2 c3 (fun i hi => Nat.not_lt.mp (fun q => e (Or.inl ⟨i, hi, q⟩))) (fun i hi => Nat.not_lt.mp (fun q => e (Or.inr ⟨i, hi, q⟩))) hI
        refine x_list hs (fun t ht => ?_) ?_
        · rcases List.mem_or_eq_of_mem_set ht with e | e
          · exact hs.2.2.2.1 t (List.mem_of_mem_eraseIdx e)
          · rw [e]; exact hok
        · rw [List.length_set]
          exact er_len hl
theorem X_type {b : Int64} {n : Int32} (hs : xOk s) : xOk (o_type s b n).2 := by
  unfold o_type
  split
  · exact hs
  · split
    · exact hs
    · rename_i c1 c2
      refine ⟨hs.1, hs.2.1, hs.2.2.1, hs.2.2.2.1, hs.2.2.2.2.1, ?_, fun x hx => ?_⟩
      · show (xT s ++ (List.range (tn n)).map _).length ≤ 120
        rw [List.length_append, List.length_map, List.length_range]
        omega
      · have hx' : x ∈ xT s ++ (List.range (tn n)).map (fun i => by8 b (tn n - 1 - i)) := hx
        rcases List.mem_append.mp hx' with e | e
        · exact hs.2.2.2.2.2.2 x e
        · obtain ⟨k, -, e2⟩ := List.mem_map.mp e
          rw [← e2]
          exact by8_lt _ _
theorem x_typed (hs : xOk s) : xOk (wTyped s []) := ⟨hs.1, hs.2.1, hs.2.2.1, hs.2.2.2.1, hs.2.2.2.2.1, Nat.zero_le _, fun b hb => by cases hb⟩
theorem X_read (hs : xOk s) : xOk (o_read s).2.2 := by
  unfold o_read
  split
  · exact x_typed hs
  · rename_i c
    cases e : prse (xP s) (xF s) (xT s) with
    | none => exact x_typed hs
    | some r =>
      show xOk (if bts r = xT s then (nI 0, nI (ipos (xL s) (aP r)), wTyped (wList s (insR (xL s) r)) []) else (nI 1, nI 0, wTyped s [])).2.2
      split
      · refine x_typed (x_list hs (fun t ht => ?_) ?_)
        · rcases insR_mem ht with e' | e'
          · rw [e']; exact prse_ok e
          · exact hs.2.2.2.1 t e'
        · rw [insR_len]
          have := hs.2.2.2.2.1
          omega
      · exact x_typed hs
end X1
