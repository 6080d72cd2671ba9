set_option maxRecDepth 20000
/-! ints as numbers: the bits -/
theorem i_ext {x y : Int32} (h : x.toBitVec = y.toBitVec) : x = y := Int32.toBitVec_inj.mp h
theorem nI_bv (a : Nat) : (nI a).toBitVec = BitVec.ofNat 32 a := rfl
theorem b_and (a b : Nat) : nI a &&& nI b = nI (a &&& b) := by
  apply i_ext
  rw [Int32.toBitVec_and, nI_bv, nI_bv, nI_bv]
  apply BitVec.eq_of_toNat_eq
  rw [BitVec.toNat_and, BitVec.toNat_ofNat, BitVec.toNat_ofNat, BitVec.toNat_ofNat, Nat.and_mod_two_pow]
theorem b_or (a b : Nat) : nI a ||| nI b = nI (a ||| b) := by
  apply i_ext
  rw [Int32.toBitVec_or, nI_bv, nI_bv, nI_bv]
  apply BitVec.eq_of_toNat_eq
  rw [BitVec.toNat_or, BitVec.toNat_ofNat, BitVec.toNat_ofNat, BitVec.toNat_ofNat, Nat.or_mod_two_pow]
theorem b_sm : ∀ b, b < 32 → (BitVec.ofNat 32 b).smod 32 = BitVec.ofNat 32 b := by decide +kernel
theorem b_shl {a b : Nat} (hb : b < 32) : nI a <<< nI b = nI (a * 2 ^ b) := by
  apply i_ext
  rw [Int32.toBitVec_shiftLeft, nI_bv, nI_bv, nI_bv, b_sm b hb]
  apply BitVec.eq_of_toNat_eq
  rw [BitVec.shiftLeft_eq', BitVec.toNat_shiftLeft, BitVec.toNat_ofNat, BitVec.toNat_ofNat, BitVec.toNat_ofNat, Nat.shiftLeft_eq, Nat.mod_eq_of_lt (show b < 2 ^ 32 by omega), Nat.mod_mul_mod]
theorem b_shr {a b : Nat} (ha : a < 2147483648) (hb : b < 32) : nI a >>> nI b = nI (a / 2 ^ b) := by
  apply i_ext
  rw [Int32.toBitVec_shiftRight, nI_bv, nI_bv, nI_bv, b_sm b hb]
  apply BitVec.eq_of_toNat_eq
  have hm : (BitVec.ofNat 32 a).msb = false := by
    rw [BitVec.msb_eq_decide, BitVec.toNat_ofNat, Nat.mod_eq_of_lt (by omega)]
    simp
    omega
  rw [BitVec.sshiftRight_eq', BitVec.sshiftRight_eq_of_msb_false hm, BitVec.toNat_ushiftRight, BitVec.toNat_ofNat, BitVec.toNat_ofNat, BitVec.toNat_ofNat, Nat.shiftRight_eq_div_pow, Nat.mod_eq_of_lt (show b < 2 ^ 32 by omega), Nat.mod_eq_of_lt (show a < 2 ^ 32 by omega), Nat.mod_eq_of_lt]
  exact Nat.lt_of_le_of_lt (Nat.div_le_self _ _) (by omega)
theorem b_31 {a : Nat} (h : a < 32) : nI a &&& nI 31 = nI a := by
  rw [b_and]
  congr 1
  exact (Nat.and_two_pow_sub_one_eq_mod a 5).trans (Nat.mod_eq_of_lt h)
theorem b_and3 (a : Nat) : nI a &&& nI 3 = nI (a % 4) := by
  rw [b_and]
  congr 1
  exact Nat.and_two_pow_sub_one_eq_mod a 2
theorem b_and255 (a : Nat) : nI a &&& nI 255 = nI (a % 256) := by
  rw [b_and]
  congr 1
  exact Nat.and_two_pow_sub_one_eq_mod a 8
theorem b_and15 (a : Nat) : nI a &&& nI 15 = nI (a % 16) := by
  rw [b_and]
  congr 1
  exact Nat.and_two_pow_sub_one_eq_mod a 4
theorem b_and1 (a : Nat) : nI a &&& nI 1 = nI (a % 2) := by
  rw [b_and]
  congr 1
  exact Nat.and_two_pow_sub_one_eq_mod a 1
theorem four_two (n : Nat) : 2 ^ (2 * n) = 4 ^ n := by rw [Nat.pow_mul]
/-- low bits beside high ones -/
theorem b_orAdd {a b n : Nat} (h : b < 2 ^ n) : nI (a * 2 ^ n) ||| nI b = nI (a * 2 ^ n + b) := by
  rw [b_or]
  congr 1
  rw [← Nat.shiftLeft_eq, Nat.shiftLeft_add_eq_or_of_lt h]
theorem b_orAdd' {a b n : Nat} (h : b < 2 ^ n) : nI b ||| nI (a * 2 ^ n) = nI (b + a * 2 ^ n) := by
  rw [b_or, Nat.or_comm, Nat.add_comm]
  congr 1
  rw [← Nat.shiftLeft_eq, Nat.shiftLeft_add_eq_or_of_lt h]
theorem b_low {n : Nat} (h : n < 16) : (nI 1 <<< (nI (2 * n) &&& nI 31)) - nI 1 = nI (4 ^ n - 1) := by
  rw [b_31 (by omega), b_shl (by omega), Nat.one_mul, four_two, nI_sub (Nat.one_le_pow _ _ (by omega))]
theorem b_andLow {a n : Nat} : nI a &&& nI (4 ^ n - 1) = nI (a % 4 ^ n) := by
  rw [b_and]
  congr 1
  rw [← four_two]
  exact Nat.and_two_pow_sub_one_eq_mod a (2 * n)
theorem p4_le {n m : Nat} (h : n ≤ m) : 4 ^ n ≤ 4 ^ m := Nat.pow_le_pow_right (by omega) h
theorem p4_8 {n : Nat} (h : n ≤ 8) : 4 ^ n ≤ 65536 := p4_le (m := 8) h
theorem p4_pos (n : Nat) : 0 < 4 ^ n := Nat.pow_pos (by omega)
theorem p4_s (n : Nat) : 4 ^ (n + 1) = 4 * 4 ^ n := by rw [Nat.pow_succ, Nat.mul_comm]
/-! longs -/
theorem l_ext {x y : Int64} (h : x.toBitVec = y.toBitVec) : x = y := Int64.toBitVec_inj.mp h
theorem nI_l64 {a : Nat} (h : a < 2147483648) : (nI a).toInt64.toBitVec = BitVec.ofNat 64 a := by
  have e : (nI a).toInt64 = Int64.ofNat a := by
    apply Int64.toInt_inj.mp
    rw [Int32.toInt_toInt64, nI_toInt h, Int64.toInt_ofNat_of_lt (by omega)]
  rw [e]
  rfl
theorem sh63 : ∀ a, a < 64 → (BitVec.ofNat 64 a &&& BitVec.ofNat 64 63) = BitVec.ofNat 64 a := by decide +kernel
theorem c_baseOf {b : Int64} {n i d : Nat} {S : Mem} (hn : i + d + 1 = n) (hd : d < 32) (h31 : n < 2147483648) : F_X5_baseOf b (nI n) (nI i) S = some (nI (dg b d), S) := by
  unfold F_X5_baseOf
  simp only [l_0, l_1, l_2, l_3, l_4, l_5, l_6, l_7, l_8, l_9, l_10, l_11, l_12, l_13, l_14, l_15, l_16, l_17, l_18, l_19, l_20, l_21, l_24, l_25, l_26, l_27, l_31, l_33, l_41, l_65, l_67, l_71, l_84, l_120, l_127, l_128, l_130, l_160, l_162, l_200, l_255, l_256, l_999, l_1000, l_8000, l_9999, l_10000, l_8001, l_m1]
  rw [nI_sub1 (by omega), nI_sub (by omega), nI_mul, show n - 1 - i = d by omega]
  congr 2
  apply i_ext
  apply BitVec.eq_of_toNat_eq
  have e : ((nI (2 * d)).toInt64.toUInt64 &&& Int64.toUInt64 63).toBitVec = BitVec.ofNat 64 (2 * d) := by
    rw [UInt64.toBitVec_and]
    show (nI (2 * d)).toInt64.toBitVec &&& BitVec.ofNat 64 63 = _
    rw [nI_l64 (by omega), sh63 _ (by omega)]
  have e2 : ((nI (2 * d)).toInt64.toUInt64 &&& Int64.toUInt64 63).toNat = 2 * d := by
    rw [← UInt64.toNat_toBitVec, e, BitVec.toNat_ofNat, Nat.mod_eq_of_lt (by omega)]
  rw [Int32.toBitVec_and, BitVec.toNat_and, nI_bv, nI_bv, BitVec.toNat_ofNat, BitVec.toNat_ofNat, Int64.toBitVec_toInt32, BitVec.signExtend_eq_setWidth_of_le _ (by decide), BitVec.toNat_setWidth]
  show (b.toUInt64 >>> ((nI (2 * d)).toInt64.toUInt64 &&& Int64.toUInt64 63)).toNat % 2 ^ 32 &&& 3 % 2 ^ 32 = _
  rw [UInt64.toNat_shiftRight, e2, Nat.mod_eq_of_lt (show 2 * d < 64 by omega), Nat.shiftRight_eq_div_pow]
  unfold dg
  show (b.toBitVec.toNat / 2 ^ (2 * d)) % 2 ^ 32 &&& 3 = _
  rw [four_two]
  have := Nat.and_two_pow_sub_one_eq_mod ((b.toBitVec.toNat / 4 ^ d) % 2 ^ 32) 2
  rw [show (2 ^ 2 - 1 : Nat) = 3 by decide] at this
  rw [this]
  omega
theorem dg_nI {a d : Nat} (h : a < 2147483648) : dg (nI a).toInt64 d = a / 4 ^ d % 4 := by
  unfold dg
  rw [nI_l64 h, BitVec.toNat_ofNat, Nat.mod_eq_of_lt (show a < 2 ^ 64 by omega)]
theorem dg_lt (b : Int64) (d : Nat) : dg b d < 4 := Nat.mod_lt _ (by omega)
theorem sm64 : ∀ a, a < 64 → (BitVec.ofNat 64 a).smod 64 = BitVec.ofNat 64 a := by decide +kernel
theorem l_shm {x : BitVec 64} {s k : Nat} (h : s + k ≤ 64) : (x.sshiftRight s) &&& BitVec.ofNat 64 (2 ^ k - 1) = (x >>> s) &&& BitVec.ofNat 64 (2 ^ k - 1) := by
  apply BitVec.eq_of_getLsbD_eq
  intro i hi
  rw [BitVec.getLsbD_and, BitVec.getLsbD_and, BitVec.getLsbD_sshiftRight, BitVec.getLsbD_ushiftRight, BitVec.getLsbD_ofNat, Nat.testBit_two_pow_sub_one]
  by_cases c : i < k
  · rw [if_pos (by omega), show (!decide (64 ≤ i)) = true by simp; omega, Bool.true_and]
  · simp [c]
theorem l_shv {b : Int64} {s k : Nat} (hs : s < 64) (h : s + k ≤ 64) (hk : k ≤ 32) : ((b >>> ((nI s).toInt64 &&& 63)) &&& Int64.ofNat (2 ^ k - 1)).toInt32 = nI (b.toBitVec.toNat / 2 ^ s % 2 ^ k) := by
  apply i_ext
  apply BitVec.eq_of_toNat_eq
  have e : ((nI s).toInt64 &&& 63).toBitVec = BitVec.ofNat 64 s := by
    rw [Int64.toBitVec_and, nI_l64 (by omega)]
    exact sh63 s hs
  rw [Int64.toBitVec_toInt32, BitVec.signExtend_eq_setWidth_of_le _ (by decide), BitVec.toNat_setWidth, Int64.toBitVec_and, Int64.toBitVec_shiftRight, e, sm64 s hs, BitVec.sshiftRight_eq', BitVec.toNat_ofNat, Nat.mod_eq_of_lt (show s < 2 ^ 64 by omega)]
  show (b.toBitVec.sshiftRight s &&& BitVec.ofNat 64 (2 ^ k - 1)).toNat % 2 ^ 32 = _
  have hp : 2 ^ k ≤ 2 ^ 32 := Nat.pow_le_pow_right (by omega) hk
  rw [l_shm h, BitVec.toNat_and, BitVec.toNat_ushiftRight, BitVec.toNat_ofNat, Nat.mod_eq_of_lt (show 2 ^ k - 1 < 2 ^ 64 by omega), Nat.shiftRight_eq_div_pow, Nat.and_two_pow_sub_one_eq_mod, nI_bv, BitVec.toNat_ofNat]
theorem m_dg {b : Int64} {d : Nat} (hd : d < 16) : ((b >>> ((nI 2 * nI d).toInt64 &&& 63)) &&& 3).toInt32 = nI (dg b d) := by
  have := l_shv (b := b) (s := 2 * d) (k := 2) (by omega) (by omega) (by omega)
  rw [four_two] at this
  rw [nI_mul]
  exact this
theorem m_by {b : Int64} {d : Nat} (hd : d < 8) : ((b >>> ((nI 8 * nI d).toInt64 &&& 63)) &&& 255).toInt32 = nI (by8 b d) := by
  have := l_shv (b := b) (s := 8 * d) (k := 8) (by omega) (by omega) (by omega)
  rw [Nat.pow_mul] at this
  rw [nI_mul]
  exact this
theorem c_by {b : Int64} {d : Nat} (hd : d < 8) : ((b.toUInt64 >>> ((nI 8 * nI d).toInt64.toUInt64 &&& Int64.toUInt64 63)).toInt64).toInt32 &&& nI 255 = nI (by8 b d) := by
  rw [nI_mul]
  apply i_ext
  apply BitVec.eq_of_toNat_eq
  have e : ((nI (8 * d)).toInt64.toUInt64 &&& Int64.toUInt64 63).toBitVec = BitVec.ofNat 64 (8 * d) := by
    rw [UInt64.toBitVec_and]
    show (nI (8 * d)).toInt64.toBitVec &&& BitVec.ofNat 64 63 = _
    rw [nI_l64 (by omega), sh63 _ (by omega)]
  have e2 : ((nI (8 * d)).toInt64.toUInt64 &&& Int64.toUInt64 63).toNat = 8 * d := by
    rw [← UInt64.toNat_toBitVec, e, BitVec.toNat_ofNat, Nat.mod_eq_of_lt (by omega)]
  rw [Int32.toBitVec_and, BitVec.toNat_and, nI_bv, nI_bv, BitVec.toNat_ofNat, BitVec.toNat_ofNat, Int64.toBitVec_toInt32, BitVec.signExtend_eq_setWidth_of_le _ (by decide), BitVec.toNat_setWidth]
  show (b.toUInt64 >>> ((nI (8 * d)).toInt64.toUInt64 &&& Int64.toUInt64 63)).toNat % 2 ^ 32 &&& 255 % 2 ^ 32 = _
  rw [UInt64.toNat_shiftRight, e2, Nat.mod_eq_of_lt (show 8 * d < 64 by omega), Nat.shiftRight_eq_div_pow]
  unfold by8
  show (b.toBitVec.toNat / 2 ^ (8 * d)) % 2 ^ 32 &&& 255 = _
  rw [Nat.pow_mul, show (2 ^ 8 : Nat) = 256 by decide]
  have := Nat.and_two_pow_sub_one_eq_mod ((b.toBitVec.toNat / 256 ^ d) % 2 ^ 32) 8
  rw [show (2 ^ 8 - 1 : Nat) = 255 by decide] at this
  rw [this]
  omega
theorem c_lowb {b : Int64} {n : Nat} (hn : n < 16) : (b &&& (nI (4 ^ n - 1)).toInt64).toInt32 = nI (b.toBitVec.toNat % 4 ^ n) := by
  have hp : 4 ^ n ≤ 4 ^ 15 := p4_le (by omega)
  apply i_ext
  apply BitVec.eq_of_toNat_eq
  rw [Int64.toBitVec_toInt32, BitVec.signExtend_eq_setWidth_of_le _ (by decide), BitVec.toNat_setWidth, Int64.toBitVec_and, nI_l64 (by omega), BitVec.toNat_and, BitVec.toNat_ofNat, Nat.mod_eq_of_lt (show 4 ^ n - 1 < 2 ^ 64 by omega), ← four_two, Nat.and_two_pow_sub_one_eq_mod, nI_bv, BitVec.toNat_ofNat]
theorem m_lowb {b : Int64} {n : Nat} (hn : n < 16) : (b &&& (((1 : Int64) <<< ((nI 2 * nI n).toInt64 &&& 63)) - 1)).toInt32 = nI (b.toBitVec.toNat % 4 ^ n) := by
  rw [← c_lowb hn]
  congr 2
  apply l_ext
  have hp : 4 ^ n ≤ 4 ^ 15 := p4_le (by omega)
  have hp0 := p4_pos n
  have e : ((nI 2 * nI n).toInt64 &&& 63).toBitVec = BitVec.ofNat 64 (2 * n) := by
    rw [nI_mul, Int64.toBitVec_and, nI_l64 (by omega)]
    exact sh63 _ (by omega)
  rw [Int64.toBitVec_sub, Int64.toBitVec_shiftLeft, e, sm64 _ (by omega), nI_l64 (by omega)]
  apply BitVec.eq_of_toNat_eq
  rw [BitVec.toNat_sub, BitVec.shiftLeft_eq', BitVec.toNat_shiftLeft, BitVec.toNat_ofNat, BitVec.toNat_ofNat, Nat.mod_eq_of_lt (show 2 * n < 2 ^ 64 by omega), Nat.shiftLeft_eq, four_two]
  show (2 ^ 64 - 1 % 2 ^ 64 + 1 % 2 ^ 64 * 4 ^ n % 2 ^ 64) % 2 ^ 64 = (4 ^ n - 1) % 2 ^ 64
  omega
theorem by8_lt (b : Int64) (d : Nat) : by8 b d < 256 := Nat.mod_lt _ (by omega)
