set_option maxRecDepth 20000
/-! Floats that are not below 0 and no NaN. -/
theorem nn32 {a : UInt32} (h : FP.Core.val32 a ≠ .nan) : a &&& 0x7fffffff ≤ 0x7f800000 := by
  rw [UInt32.le_iff_toNat_le, UInt32.toNat_and]
  show a.toNat &&& (2 ^ 31 - 1) ≤ 2139095040
  rw [Nat.and_two_pow_sub_one_eq_mod]
  refine Nat.le_of_not_lt (fun q => h ?_)
  have e1 : FP.Core.fieldE FP.Core.b32 a.toNat = FP.Core.b32.exps - 1 := by
    show a.toNat / 8388608 % 256 = 255
    omega
  have e2 : ¬ FP.Core.fieldT FP.Core.b32 a.toNat = 0 := by
    show ¬ a.toNat % 8388608 = 0
    omega
  unfold FP.Core.val32 FP.Core.decode
  rw [if_pos e1, if_neg e2]
theorem nn64 {a : UInt64} (h : FP.Core.val64 a ≠ .nan) : a &&& 0x7fffffffffffffff ≤ 0x7ff0000000000000 := by
  rw [UInt64.le_iff_toNat_le, UInt64.toNat_and]
  show a.toNat &&& (2 ^ 63 - 1) ≤ 9218868437227405312
  rw [Nat.and_two_pow_sub_one_eq_mod]
  refine Nat.le_of_not_lt (fun q => h ?_)
  have e1 : FP.Core.fieldE FP.Core.b64 a.toNat = FP.Core.b64.exps - 1 := by
    show a.toNat / 4503599627370496 % 2048 = 2047
    omega
  have e2 : ¬ FP.Core.fieldT FP.Core.b64 a.toNat = 0 := by
    show ¬ a.toNat % 4503599627370496 = 0
    omega
  unfold FP.Core.val64 FP.Core.decode
  rw [if_pos e1, if_neg e2]
def dPos (d : FP.Core.Datum) : Prop := d = .inf false ∨ ∃ c q, d = .fin false c q
def fPos (x : UInt32) : Prop := dPos (FP.Core.val32 x)
theorem dPos_nn {d : FP.Core.Datum} (h : dPos d) : d ≠ .nan := by
  rcases h with e | ⟨c, q, e⟩ <;> rw [e] <;> exact fun w => FP.Core.Datum.noConfusion w
theorem dPos_settle {f : FP.Core.Fmt} {c : Nat} {q : Int} : dPos (FP.Core.settle f false c q) := by
  unfold FP.Core.settle FP.Core.bound
  split
  · split
    · exact Or.inr ⟨_, _, rfl⟩
    · exact Or.inl rfl
  · split
    · exact Or.inr ⟨_, _, rfl⟩
    · exact Or.inl rfl
theorem dPos_ratio {f : FP.Core.Fmt} {a b : Nat} {e : Int} : dPos (FP.Core.roundRatio f false a b e) := by
  unfold FP.Core.roundRatio
  split
  · exact Or.inr ⟨_, _, rfl⟩
  · exact dPos_settle
theorem dPos_round {f : FP.Core.Fmt} {d : FP.Core.Datum} (h : dPos d) : dPos (FP.Core.round f d) := by
  rcases h with e | ⟨c, q, e⟩ <;> rw [e]
  · exact Or.inl rfl
  · exact dPos_ratio
theorem dPos_sum {d e : FP.Core.Datum} (h : dPos d) (h' : dPos e) : dPos (FP.Core.exactSum d e) := by
  rcases h with e1 | ⟨c, q, e1⟩ <;> rcases h' with e2 | ⟨c', q', e2⟩ <;> rw [e1, e2]
  · exact Or.inl (by decide)
  · exact Or.inl rfl
  · exact Or.inl rfl
  · have hz : ¬ FP.Core.sumUnits false c q false c' q' (min q q') < 0 := by
      unfold FP.Core.sumUnits FP.Core.signed
      simp only [Bool.false_eq_true, ↓reduceIte]
      omega
    have : FP.Core.sumSign false false (FP.Core.sumUnits false c q false c' q' (min q q')) = false := by
      unfold FP.Core.sumSign
      split
      · rfl
      · exact decide_eq_false hz
    refine Or.inr ⟨(FP.Core.sumUnits false c q false c' q' (min q q')).natAbs, min q q', ?_⟩
    show FP.Core.Datum.fin (FP.Core.sumSign false false (FP.Core.sumUnits false c q false c' q' (min q q'))) _ _ = _
    rw [this]
theorem fPos_add {x y : UInt32} (h : fPos x) (h' : fPos y) : fPos (FP.fadd x y) := by
  unfold fPos
  rw [show FP.Core.val32 (FP.fadd x y) = _ from FP.Core.val32_fadd x y]
  exact dPos_round (dPos_sum h h')
theorem nI_ti {q : Nat} (h : q < 2147483648) : (nI q).toInt = q := Int32.toInt_ofNat_of_lt h
theorem fPos_i2f {q : Nat} (h : q < 2147483648) : fPos (FP.i2f (nI q)) := by
  unfold fPos
  rw [show FP.Core.val32 (FP.i2f (nI q)) = _ from FP.Core.val32_i2f (nI q), nI_ti h]
  refine dPos_round (Or.inr ⟨q, 0, ?_⟩)
  unfold FP.Core.ofInt
  rw [decide_eq_false (by omega), Int.natAbs_natCast]
theorem v_mn8 : FP.Core.val32 1040187392 = .fin false 8388608 (-26) := by decide +kernel
theorem fPos_mul8 {x : UInt32} (h : fPos x) : fPos (FP.fmul x 1040187392) := by
  unfold fPos
  rw [show FP.Core.val32 (FP.fmul x 1040187392) = _ from FP.Core.val32_fmul x 1040187392, v_mn8]
  refine dPos_round ?_
  rcases h with e | ⟨c, q, e⟩ <;> rw [e]
  · exact Or.inl rfl
  · exact Or.inr ⟨_, _, rfl⟩
theorem fPos_0 : fPos FP.fconst0 := Or.inr ⟨0, -149, by decide +kernel⟩
def finNz : FP.Core.Datum → Bool
  | .fin false c _ => !(c == 0)
  | _ => false
theorem i2f_nz {n : Nat} (h1 : 1 ≤ n) (h2 : n ≤ 24) : ∃ c q, FP.Core.val32 (FP.i2f (nI n)) = .fin false c q ∧ c ≠ 0 := by
  have : ∀ k, k < 25 → 1 ≤ k → finNz (FP.Core.val32 (FP.i2f (nI k))) = true := by decide +kernel
  have := this n (by omega) h1
  cases e : FP.Core.val32 (FP.i2f (nI n)) with
  | nan => rw [e] at this; cases this
  | inf s => rw [e] at this; cases this
  | fin s c q =>
    rw [e] at this
    cases s with
    | true => cases this
    | false =>
      refine ⟨c, q, rfl, fun w => ?_⟩
      subst w
      cases this
theorem fPos_div {x : UInt32} {n : Nat} (h : fPos x) (h1 : 1 ≤ n) (h2 : n ≤ 24) : fPos (FP.fdiv x (FP.i2f (nI n))) := by
  unfold fPos
  obtain ⟨d, r, e2, hd⟩ := i2f_nz h1 h2
  rw [show FP.Core.val32 (FP.fdiv x (FP.i2f (nI n))) = _ from FP.Core.val32_fdiv x (FP.i2f (nI n)), e2]
  rcases h with e | ⟨c, q, e⟩ <;> rw [e]
  · exact Or.inl rfl
  · show dPos (if d = 0 then _ else FP.Core.roundRatio FP.Core.b32 false c d (q - r))
    rw [if_neg hd]
    exact dPos_ratio
theorem pfadd_p {x y : UInt32} (h : fPos x) (h' : fPos y) : pfadd x y = some (FP.fadd x y) := if_pos (nn32 (dPos_nn (fPos_add h h')))
theorem pfmul_p {x : UInt32} (h : fPos x) : pfmul x 1040187392 = some (FP.fmul x 1040187392) := if_pos (nn32 (dPos_nn (fPos_mul8 h)))
theorem pfdiv_p {x : UInt32} {n : Nat} (h : fPos x) (h1 : 1 ≤ n) (h2 : n ≤ 24) : pfdiv x (FP.i2f (nI n)) = some (FP.fdiv x (FP.i2f (nI n))) := if_pos (nn32 (dPos_nn (fPos_div h h1 h2)))
theorem f2d_pos {x : UInt32} (h : fPos x) : dPos (FP.Core.val64 (FP.f2d x)) := by
  have : FP.Core.fIsNaN x = false := decide_eq_false (dPos_nn h)
  unfold FP.f2d
  rw [this]
  rw [if_neg (by decide), FP.Core.val64_f2d]
  exact dPos_round h
theorem pf2d_p {x : UInt32} (h : fPos x) : pf2d x = some (FP.f2d x) := if_pos (nn64 (dPos_nn (f2d_pos h)))
theorem dcmp_self {x : UInt32} (h : fPos x) : Op.cmpValue (FP.dcmp (FP.f2d x) (FP.f2d x)) .l = 0 := by
  have h' := f2d_pos h
  have : FP.dcmp (FP.f2d x) (FP.f2d x) = some .eq := by
    show FP.Core.order (FP.Core.val64 (FP.f2d x)) (FP.Core.val64 (FP.f2d x)) = some .eq
    rcases h' with e | ⟨c, q, e⟩ <;> rw [e]
    · exact congrArg some Std.ReflCmp.compare_self
    · exact congrArg some Std.ReflCmp.compare_self
  rw [this]
  rfl
section C18
variable {S S' S1 S2 : Mem} {z v n a lo hi o k i A f N p : Nat} {r : Rc} {s : As} {b e : Int32}
theorem cnt_le (b e : Int32) : ∀ l : List Rc, cnt b e l ≤ l.length := by
  intro l
  induction l with
  | nil => exact Nat.le_refl _
  | cons x xs ih =>
    rw [cnt, List.length_cons]
    split <;> omega
theorem sm8_pos (b e : Int32) : ∀ (l : List Rc) (x : UInt32), (∀ r, r ∈ l → aQ r ≤ 8000) → fPos x → fPos (sm8 b e l x) := by
  intro l
  induction l with
  | nil => intro x _ h; exact h
  | cons r rs ih =>
    intro x hq h
    have := hq r (List.mem_cons_self ..)
    rw [sm8]
    refine ih _ (fun r hr => hq r (List.mem_cons_of_mem _ hr)) ?_
    split
    · exact fPos_add h (fPos_mul8 (fPos_i2f (by omega)))
    · exact h
theorem c_mean_L {pp : Nat → Nat} {ls : List Rc} {pq : Nat} {rf : Nat → Nat} (hq : pq ≤ 160) (h : zSt z S) (hp : zLv z S pp ls) (h2 : ls.length ≤ 24) (hB : ∀ t, t ∈ ls → aOk pq rf t) :
    ∀ (m fu j k : Nat) (x : UInt32), j + m = ls.length → m < fu → k ≤ j → fPos x → F_X5_mean_L13 fu z b e (nI k) x (nI j) S = some (if k + cnt b e (ls.drop j) = 0 then .inr "java/util/NoSuchElementException" else .inl (FP.fdiv (sm8 b e (ls.drop j) x) (FP.i2f (nI (k + cnt b e (ls.drop j))))), S) := by
  intro m
  induction m with
  | zero =>
    intro fu j k x hj hf hk hx
    obtain ⟨fu, rfl⟩ : ∃ f, fu = f + 1 := ⟨fu - 1, by omega⟩
    have h1 : nI ls.length ≤ nI j := nI_le (by omega) (by omega)
    rw [List.drop_eq_nil_of_le (by omega)]
    by_cases c : k = 0
    · subst c
      simp only [F_X5_mean_L13, l_0, l_1, l_2, l_3, l_4, l_5, l_6, l_7, l_8, l_9, l_10, l_11, l_12, l_13, l_14, l_15, l_16, l_17, l_18, l_19, l_20, l_21, l_24, l_25, l_26, l_27, l_31, l_33, l_41, l_65, l_67, l_71, l_84, l_120, l_127, l_128, l_130, l_160, l_162, l_200, l_255, l_256, l_999, l_1000, l_8000, l_9999, l_10000, l_8001, l_m1, t_k0, t_g0, t_p0, t_z0, t_k1, t_g1, t_p1, t_z1, t_k3, t_g3, t_p3, t_z3, t_k187, t_g187, t_p187, t_z187, t_k210, t_g210, t_p210, t_z210, t_k212, t_g212, t_p212, t_z212, t_k214, t_g214, t_p214, t_z214, t_r0_0, t_r0_1, t_r0_2, t_r0_4, t_r0_5, t_r0_6, t_r0_7, t_r1_0, t_r3_0, t_r187_0, t_r187_1, t_r187_2, t_r187_3, t_r210_0, t_r212_0, t_r214_1, t_r214_5, t_r214_6, t_r214_8, t_r214_10, t_a2, t_s2, t_a209, t_s209, t_a211, t_s211, t_a213, t_s213, t_a215, t_s215, t_a216, t_s216, t_a217, t_s217, t_a218, t_s218, t_a219, t_s219, t_a4, t_s4, zSt_sI, zSt_sF, zSt_zI, zSt_sJ, zSt_sD, zBo_0, zBo_1, h, hp.2.1, h1, bd2_some, bdx_inl, bdx_inr, bdc_inl, bdc_inr, obd_some, ↓reduceIte, cnt, Nat.add_zero]
    · have c' : ¬ nI k = nI 0 := fun q => c ((nI_eq (by omega) (by omega)).mp q)
      have hd := pfdiv_p (x := x) (n := k) hx (by omega) (by omega)
      simp only [F_X5_mean_L13, l_0, l_1, l_2, l_3, l_4, l_5, l_6, l_7, l_8, l_9, l_10, l_11, l_12, l_13, l_14, l_15, l_16, l_17, l_18, l_19, l_20, l_21, l_24, l_25, l_26, l_27, l_31, l_33, l_41, l_65, l_67, l_71, l_84, l_120, l_127, l_128, l_130, l_160, l_162, l_200, l_255, l_256, l_999, l_1000, l_8000, l_9999, l_10000, l_8001, l_m1, t_k0, t_g0, t_p0, t_z0, t_k1, t_g1, t_p1, t_z1, t_k3, t_g3, t_p3, t_z3, t_k187, t_g187, t_p187, t_z187, t_k210, t_g210, t_p210, t_z210, t_k212, t_g212, t_p212, t_z212, t_k214, t_g214, t_p214, t_z214, t_r0_0, t_r0_1, t_r0_2, t_r0_4, t_r0_5, t_r0_6, t_r0_7, t_r1_0, t_r3_0, t_r187_0, t_r187_1, t_r187_2, t_r187_3, t_r210_0, t_r212_0, t_r214_1, t_r214_5, t_r214_6, t_r214_8, t_r214_10, t_a2, t_s2, t_a209, t_s209, t_a211, t_s211, t_a213, t_s213, t_a215, t_s215, t_a216, t_s216, t_a217, t_s217, t_a218, t_s218, t_a219, t_s219, t_a4, t_s4, zSt_sI, zSt_sF, zSt_zI, zSt_sJ, zSt_sD, zBo_0, zBo_1, h, hp.2.1, h1, bd2_some, bdx_inl, bdx_inr, bdc_inl, bdc_inr, obd_some, ↓reduceIte, cnt, Nat.add_zero, c, c', hd, sm8]
  | succ m ih =>
    intro fu j k x hj hf hk hx
    obtain ⟨fu, rfl⟩ : ∃ f, fu = f + 1 := ⟨fu - 1, by omega⟩
    have h1 : ¬ nI ls.length ≤ nI j := nI_ge (by omega) (by omega)
    have h3 : j < 24 := by omega
    have h4 : j < ls.length := by omega
    obtain ⟨p1, p2⟩ := hp.1.1 j h3
    have hv : zVar S (z + 5 + 7 * pp j) := t_vi h (by omega)
    have hc := hp.2.2 j ls[j] (List.getElem?_eq_getElem h4)
    have hb := hB _ (List.getElem_mem h4)
    have hsp := c_spans (b := b) (e := e) hv hc (by have := hb.1.1; omega) hb.2.2.1.1 (ok31 hq hb).1 (hb.2.1.1 0 (by have := hb.1.1; omega)).2.1
    rw [List.drop_eq_getElem_cons h4]
    by_cases c : spn b e ls[j] = true
    · rw [if_pos c] at hsp
      have hQ : aQ ls[j] ≤ 8000 := hb.2.2.2.1
      have e1 := pfmul_p (fPos_i2f (q := aQ ls[j]) (by omega))
      have e2 := pfadd_p hx (fPos_mul8 (fPos_i2f (q := aQ ls[j]) (by omega)))
      have IH := ih fu (j + 1) (k + 1) _ (by omega) (by omega) (by omega) (fPos_add hx (fPos_mul8 (fPos_i2f (q := aQ ls[j]) (by omega))))
      rw [cnt, sm8, if_pos c, if_pos c]
      rw [Nat.add_assoc] at IH
      refine Eq.trans ?_ IH
      simp only [F_X5_mean_L13, F_X5_mean_J69, l_0, l_1, l_2, l_3, l_4, l_5, l_6, l_7, l_8, l_9, l_10, l_11, l_12, l_13, l_14, l_15, l_16, l_17, l_18, l_19, l_20, l_21, l_24, l_25, l_26, l_27, l_31, l_33, l_41, l_65, l_67, l_71, l_84, l_120, l_127, l_128, l_130, l_160, l_162, l_200, l_255, l_256, l_999, l_1000, l_8000, l_9999, l_10000, l_8001, l_m1, t_k0, t_g0, t_p0, t_z0, t_k1, t_g1, t_p1, t_z1, t_k3, t_g3, t_p3, t_z3, t_k187, t_g187, t_p187, t_z187, t_k210, t_g210, t_p210, t_z210, t_k212, t_g212, t_p212, t_z212, t_k214, t_g214, t_p214, t_z214, t_r0_0, t_r0_1, t_r0_2, t_r0_4, t_r0_5, t_r0_6, t_r0_7, t_r1_0, t_r3_0, t_r187_0, t_r187_1, t_r187_2, t_r187_3, t_r210_0, t_r212_0, t_r214_1, t_r214_5, t_r214_6, t_r214_8, t_r214_10, t_a2, t_s2, t_a209, t_s209, t_a211, t_s211, t_a213, t_s213, t_a215, t_s215, t_a216, t_s216, t_a217, t_s217, t_a218, t_s218, t_a219, t_s219, t_a4, t_s4, zSt_sI, zSt_sF, zSt_zI, zSt_sJ, zSt_sD, zBo_0, zBo_1, h, hp.2.1, h1, h3, p2, bd2_some, bdx_inl, bdx_inr, bdc_inl, bdc_inr, obd_some, ↓reduceIte, v_pk hv, v_gI hv, hc.1.2.1, hsp, ne10, e1, e2, nI_add]
    · rw [if_neg c] at hsp
      have IH := ih fu (j + 1) k x (by omega) (by omega) (by omega) hx
      rw [cnt, sm8, if_neg c, if_neg c, Nat.zero_add]
      refine Eq.trans ?_ IH
      simp only [F_X5_mean_L13, F_X5_mean_J69, l_0, l_1, l_2, l_3, l_4, l_5, l_6, l_7, l_8, l_9, l_10, l_11, l_12, l_13, l_14, l_15, l_16, l_17, l_18, l_19, l_20, l_21, l_24, l_25, l_26, l_27, l_31, l_33, l_41, l_65, l_67, l_71, l_84, l_120, l_127, l_128, l_130, l_160, l_162, l_200, l_255, l_256, l_999, l_1000, l_8000, l_9999, l_10000, l_8001, l_m1, t_k0, t_g0, t_p0, t_z0, t_k1, t_g1, t_p1, t_z1, t_k3, t_g3, t_p3, t_z3, t_k187, t_g187, t_p187, t_z187, t_k210, t_g210, t_p210, t_z210, t_k212, t_g212, t_p212, t_z212, t_k214, t_g214, t_p214, t_z214, t_r0_0, t_r0_1, t_r0_2, t_r0_4, t_r0_5, t_r0_6, t_r0_7, t_r1_0, t_r3_0, t_r187_0, t_r187_1, t_r187_2, t_r187_3, t_r210_0, t_r212_0, t_r214_1, t_r214_5, t_r214_6, t_r214_8, t_r214_10, t_a2, t_s2, t_a209, t_s209, t_a211, t_s211, t_a213, t_s213, t_a215, t_s215, t_a216, t_s216, t_a217, t_s217, t_a218, t_s218, t_a219, t_s219, t_a4, t_s4, zSt_sI, zSt_sF, zSt_zI, zSt_sJ, zSt_sD, zBo_0, zBo_1, h, hp.2.1, h1, h3, p2, bd2_some, bdx_inl, bdx_inr, bdc_inl, bdc_inr, obd_some, ↓reduceIte, v_pk hv, hsp, nI_add]
theorem C_mean (hs : xOk s) (h : zCl z s S) : ∃ S', F_L_mean z b e (z + 221) S = some ((o_mean s b e).1, S') ∧ zCl z s S' ∧ zCf z S S' ∧ ((o_mean s b e).1 = nI 0 → mD S' (z + 221) 0 = FP.f2d (o_mean s b e).2 ∧ fPos (o_mean s b e).2) := by
  obtain ⟨hS, ⟨pp, hL⟩, hR, hD, hT⟩ := id h
  have hl24 := hs.2.2.2.2.1
  have hreg := c_region (b := b) (e := e) (S := S)
  by_cases c : bad2 b e = true
  · rw [if_pos c] at hreg
    rw [show o_mean s b e = (nI 1, 0) from if_pos c]
    refine ⟨S, ?_, h, zCf_refl hS, fun e => absurd e ne10⟩
    simp only [F_L_mean, F_X5_mean, l_0, l_1, l_2, l_3, l_4, l_5, l_6, l_7, l_8, l_9, l_10, l_11, l_12, l_13, l_14, l_15, l_16, l_17, l_18, l_19, l_20, l_21, l_24, l_25, l_26, l_27, l_31, l_33, l_41, l_65, l_67, l_71, l_84, l_120, l_127, l_128, l_130, l_160, l_162, l_200, l_255, l_256, l_999, l_1000, l_8000, l_9999, l_10000, l_8001, l_m1, t_k0, t_g0, t_p0, t_z0, t_k1, t_g1, t_p1, t_z1, t_k3, t_g3, t_p3, t_z3, t_k187, t_g187, t_p187, t_z187, t_k210, t_g210, t_p210, t_z210, t_k212, t_g212, t_p212, t_z212, t_k214, t_g214, t_p214, t_z214, t_r0_0, t_r0_1, t_r0_2, t_r0_4, t_r0_5, t_r0_6, t_r0_7, t_r1_0, t_r3_0, t_r187_0, t_r187_1, t_r187_2, t_r187_3, t_r210_0, t_r212_0, t_r214_1, t_r214_5, t_r214_6, t_r214_8, t_r214_10, t_a2, t_s2, t_a209, t_s209, t_a211, t_s211, t_a213, t_s213, t_a215, t_s215, t_a216, t_s216, t_a217, t_s217, t_a218, t_s218, t_a219, t_s219, t_a4, t_s4, zSt_sI, zSt_sF, zSt_zI, zSt_sJ, zSt_sD, zBo_0, zBo_1, hS, bd2_some, bdx_inl, bdx_inr, bdc_inl, bdc_inr, obd_some, hreg, ↓reduceIte]
  rw [if_neg c] at hreg
  have hf := c_mean_L (b := b) (e := e) hs.1 hS hL hl24 hs.2.2.2.1 (xL s).length FU 0 0 _ (by omega) (by show (xL s).length < 4000; omega) (by omega) fPos_0
  rw [Nat.zero_add, List.drop_zero] at hf
  by_cases c2 : cnt b e (xL s) = 0
  · rw [if_pos c2] at hf
    rw [show o_mean s b e = (nI 2, 0) from by unfold o_mean; rw [if_neg c, if_pos c2]]
    refine ⟨S, ?_, h, zCf_refl hS, fun e => absurd e n20⟩
    simp only [F_L_mean, F_X5_mean, l_0, l_1, l_2, l_3, l_4, l_5, l_6, l_7, l_8, l_9, l_10, l_11, l_12, l_13, l_14, l_15, l_16, l_17, l_18, l_19, l_20, l_21, l_24, l_25, l_26, l_27, l_31, l_33, l_41, l_65, l_67, l_71, l_84, l_120, l_127, l_128, l_130, l_160, l_162, l_200, l_255, l_256, l_999, l_1000, l_8000, l_9999, l_10000, l_8001, l_m1, t_k0, t_g0, t_p0, t_z0, t_k1, t_g1, t_p1, t_z1, t_k3, t_g3, t_p3, t_z3, t_k187, t_g187, t_p187, t_z187, t_k210, t_g210, t_p210, t_z210, t_k212, t_g212, t_p212, t_z212, t_k214, t_g214, t_p214, t_z214, t_r0_0, t_r0_1, t_r0_2, t_r0_4, t_r0_5, t_r0_6, t_r0_7, t_r1_0, t_r3_0, t_r187_0, t_r187_1, t_r187_2, t_r187_3, t_r210_0, t_r212_0, t_r214_1, t_r214_5, t_r214_6, t_r214_8, t_r214_10, t_a2, t_s2, t_a209, t_s209, t_a211, t_s211, t_a213, t_s213, t_a215, t_s215, t_a216, t_s216, t_a217, t_s217, t_a218, t_s218, t_a219, t_s219, t_a4, t_s4, zSt_sI, zSt_sF, zSt_zI, zSt_sJ, zSt_sD, zBo_0, zBo_1, hS, bd2_some, bdx_inl, bdx_inr, bdc_inl, bdc_inr, obd_some, hreg, hf, ↓reduceIte, String.reduceEq]
  · rw [if_neg c2] at hf
    have hl := cnt_le b e (xL s)
    have hp := fPos_div (sm8_pos b e (xL s) _ (fun r hr => (hs.2.2.2.1 r hr).2.2.2.1) fPos_0) (n := cnt b e (xL s)) (by omega) (by omega)
    rw [show o_mean s b e = (nI 0, FP.fdiv (sm8 b e (xL s) FP.fconst0) (FP.i2f (nI (cnt b e (xL s))))) from by unfold o_mean; rw [if_neg c, if_neg c2]]
    refine ⟨sD S (z + 221) 0 (FP.f2d (FP.fdiv (sm8 b e (xL s) FP.fconst0) (FP.i2f (nI (cnt b e (xL s)))))), ?_, zCl_sD h, zCf_sD (zCf_refl hS), fun _ => ⟨mD_sD, hp⟩⟩
    simp only [F_L_mean, F_X5_mean, l_0, l_1, l_2, l_3, l_4, l_5, l_6, l_7, l_8, l_9, l_10, l_11, l_12, l_13, l_14, l_15, l_16, l_17, l_18, l_19, l_20, l_21, l_24, l_25, l_26, l_27, l_31, l_33, l_41, l_65, l_67, l_71, l_84, l_120, l_127, l_128, l_130, l_160, l_162, l_200, l_255, l_256, l_999, l_1000, l_8000, l_9999, l_10000, l_8001, l_m1, t_k0, t_g0, t_p0, t_z0, t_k1, t_g1, t_p1, t_z1, t_k3, t_g3, t_p3, t_z3, t_k187, t_g187, t_p187, t_z187, t_k210, t_g210, t_p210, t_z210, t_k212, t_g212, t_p212, t_z212, t_k214, t_g214, t_p214, t_z214, t_r0_0, t_r0_1, t_r0_2, t_r0_4, t_r0_5, t_r0_6, t_r0_7, t_r1_0, t_r3_0, t_r187_0, t_r187_1, t_r187_2, t_r187_3, t_r210_0, t_r212_0, t_r214_1, t_r214_5, t_r214_6, t_r214_8, t_r214_10, t_a2, t_s2, t_a209, t_s209, t_a211, t_s211, t_a213, t_s213, t_a215, t_s215, t_a216, t_s216, t_a217, t_s217, t_a218, t_s218, t_a219, t_s219, t_a4, t_s4, zSt_sI, zSt_sF, zSt_zI, zSt_sJ, zSt_sD, zBo_0, zBo_1, hS, bd2_some, bdx_inl, bdx_inr, bdc_inl, bdc_inr, obd_some, hreg, hf, pf2d_p hp, t_sD hS]
end C18
