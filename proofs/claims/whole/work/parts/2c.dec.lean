def F_X1_uniteLikelihoods_L64 (K12 : Nat → Int32 → Mem → Option Mem) (K50 : Nat → Int32 → Int32 → Int32 → Mem → Option Mem) : Nat → Nat → Int32 → Int32 → Int32 → Int32 → Mem → Option Mem
  | 0, _, _, _, _, _, _ => none
  | fu + 1, v0, v1, v2, v3, v4, S =>
    if v3 < v4 then
      K50 v0 v1 v2 (v3 + 1) S
    else
      (pgR 1 3 S v0).bind fun t2 =>
      (paI S t2 v4).bind fun t3 =>
      (pgR 1 3 S v0).bind fun t4 =>
      (paI S t4 v3).bind fun t5 =>
      bd2 (F_X5_pairNumber t3 t5 S) fun t6 S7 =>
      (pgR 1 1 S7 v0).bind fun t8 =>
      (pgR 4 8 S7 t8).bind fun t9 =>
      bd2 (F_X5_pairNumber v4 v3 S7) fun t10 S11 =>
      (paI S11 t9 (v2 + t10)).bind fun t12 =>
      (pgR 1 2 S11 v0).bind fun t13 =>
      (pgR 4 8 S11 t13).bind fun t14 =>
      (pgR 1 2 S11 v0).bind fun t15 =>
      (pgR 4 8 S11 t15).bind fun t16 =>
      (paI S11 t16 (v2 + t6)).bind fun t17 =>
      (psI S11 t14 (v2 + t6) (if t12 < t17 then t12 else t17)).bind fun S18 =>
      F_X1_uniteLikelihoods_L64 K12 K50 fu v0 v1 v2 v3 (v4 + 1) S18
set_option maxRecDepth 100000 in
theorem T_X1_uniteLikelihoods_L64 {g : GG} {l : Launch} (hl : l.stackTraces = false) {S' : Mem}  {K12 : Nat → Int32 → Mem → Option Mem} {K50 : Nat → Int32 → Int32 → Int32 → Mem → Option Mem} (hK12 : ∀ (v0 : Nat) (v1 : Int32) (S : Mem), K12 v0 v1 S = some S' → Run g l uX1_uniteLikelihoods (fin g uX1_uniteLikelihoods cvV S') 12 [(0, .ref v0), (1, .int v1)] [] 0 0 S) (hK50 : ∀ (v0 : Nat) (v1 : Int32) (v2 : Int32) (v3 : Int32) (S : Mem), K50 v0 v1 v2 v3 S = some S' → Run g l uX1_uniteLikelihoods (fin g uX1_uniteLikelihoods cvV S') 50 [(0, .ref v0), (1, .int v1), (2, .int v2), (3, .int v3)] [] 0 0 S) : ∀ (fu : Nat) (v0 : Nat) (v1 : Int32) (v2 : Int32) (v3 : Int32) (v4 : Int32) (S : Mem), F_X1_uniteLikelihoods_L64 K12 K50 fu v0 v1 v2 v3 v4 S = some S' → Run g l uX1_uniteLikelihoods (fin g uX1_uniteLikelihoods cvV S') 64 [(0, .ref v0), (1, .int v1), (2, .int v2), (3, .int v3), (4, .int v4)] [] 0 0 S := by
  intro fu
  induction fu with
  | zero =>
    intro v0 v1 v2 v3 v4 S h
    cases (show none = some _ from h)
  | succ fu ih =>
    intro v0 v1 v2 v3 v4 S h
    unfold F_X1_uniteLikelihoods_L64 at h
    refine r_iload dX1_uniteLikelihoods_64 4 rfl ?_
    refine r_iload_n dX1_uniteLikelihoods_66 rfl 3 rfl ?_
    refine r_icmp_gt (tgt := 139) dX1_uniteLikelihoods_67 (by decide) (fun c1 => ?_) (fun c1 => ?_)
    · rw [if_pos c1] at h
      refine r_iinc (v := v3 + 1) (lv' := [(3, .int (v3 + 1)), (0, .ref v0), (1, .int v1), (2, .int v2), (4, .int v4)]) dX1_uniteLikelihoods_139 3 rfl rfl (by decide) rfl ?_
      refine r_goto (tgt := 50) dX1_uniteLikelihoods_142 (by decide) ?_
      refine r_sub [1, 2, 3, 0] rfl ?_
      exact hK50 v0 v1 v2 (v3 + 1) S h
    · rw [if_neg c1] at h
      refine r_iload_n dX1_uniteLikelihoods_70 rfl 2 rfl ?_
      refine r_aload_n dX1_uniteLikelihoods_71 rfl 0 rfl ?_
      obtain ⟨t2, h0, h⟩ := bd h
      refine q_getR h0 dX1_uniteLikelihoods_72 fl1_24 rfl ?_
      refine r_iload dX1_uniteLikelihoods_75 4 rfl ?_
      obtain ⟨t3, h0, h⟩ := bd h
      refine q_iaload h0 dX1_uniteLikelihoods_77 ?_
      refine r_aload_n dX1_uniteLikelihoods_78 rfl 0 rfl ?_
      obtain ⟨t4, h0, h⟩ := bd h
      refine q_getR h0 dX1_uniteLikelihoods_79 fl1_24 rfl ?_
      refine r_iload_n dX1_uniteLikelihoods_82 rfl 3 rfl ?_
      obtain ⟨t5, h0, h⟩ := bd h
      refine q_iaload h0 dX1_uniteLikelihoods_83 ?_
      obtain ⟨t6, S7, h0, h⟩ := bd2_s h
      refine r_invN (As := [.int t3, .int t5]) (st := [.int v2]) dX1_uniteLikelihoods_84 ln1_110 (by unfold RM; decide) (Nat.le_of_ble_eq_true rfl) rfl rfl (T_X5_pairNumber hl h0) ?_
      refine r_iadd dX1_uniteLikelihoods_87 ?_
      refine r_istore (lv' := [(5, .int (v2 + t6)), (0, .ref v0), (1, .int v1), (2, .int v2), (3, .int v3), (4, .int v4)]) dX1_uniteLikelihoods_88 (by decide) rfl ?_
      refine r_aload_n dX1_uniteLikelihoods_90 rfl 1 rfl ?_
      obtain ⟨t8, h0, h⟩ := bd h
      refine q_getR h0 dX1_uniteLikelihoods_91 fl1_18 rfl ?_
      obtain ⟨t9, h0, h⟩ := bd h
      refine q_getR h0 dX1_uniteLikelihoods_94 fl1_97 rfl ?_
      refine r_iload_n dX1_uniteLikelihoods_97 rfl 3 rfl ?_
      refine r_iload dX1_uniteLikelihoods_98 5 rfl ?_
      refine r_iload_n dX1_uniteLikelihoods_100 rfl 4 rfl ?_
      obtain ⟨t10, S11, h0, h⟩ := bd2_s h
      refine r_invN (As := [.int v4, .int v3]) (st := [.int v2, .ref t9]) dX1_uniteLikelihoods_101 ln1_110 (by unfold RM; decide) (Nat.le_of_ble_eq_true rfl) rfl rfl (T_X5_pairNumber hl h0) ?_
      refine r_iadd dX1_uniteLikelihoods_104 ?_
      obtain ⟨t12, h0, h⟩ := bd h
      refine q_iaload h0 dX1_uniteLikelihoods_105 ?_
      refine r_istore (lv' := [(6, .int t12), (5, .int (v2 + t6)), (0, .ref v0), (1, .int v1), (2, .int v2), (3, .int v3), (4, .int v4)]) dX1_uniteLikelihoods_106 (by decide) rfl ?_
      refine r_aload_n dX1_uniteLikelihoods_108 rfl 2 rfl ?_
      obtain ⟨t13, h0, h⟩ := bd h
      refine q_getR h0 dX1_uniteLikelihoods_109 fl1_21 rfl ?_
      obtain ⟨t14, h0, h⟩ := bd h
      refine q_getR h0 dX1_uniteLikelihoods_112 fl1_97 rfl ?_
      refine r_iload dX1_uniteLikelihoods_115 1 rfl ?_
      refine r_aload_n dX1_uniteLikelihoods_117 rfl 2 rfl ?_
      obtain ⟨t15, h0, h⟩ := bd h
      refine q_getR h0 dX1_uniteLikelihoods_118 fl1_21 rfl ?_
      obtain ⟨t16, h0, h⟩ := bd h
      refine q_getR h0 dX1_uniteLikelihoods_121 fl1_97 rfl ?_
      refine r_iload dX1_uniteLikelihoods_124 1 rfl ?_
      obtain ⟨t17, h0, h⟩ := bd h
      refine q_iaload h0 dX1_uniteLikelihoods_126 ?_
      refine r_iload dX1_uniteLikelihoods_127 0 rfl ?_
      refine r_min dX1_uniteLikelihoods_129 wm1_80 w_min (by decide) (Nat.le_of_ble_eq_true rfl) (by decide) (by decide) ?_
      obtain ⟨S18, h0, h⟩ := bd h
      refine q_iastore h0 dX1_uniteLikelihoods_132 ?_
      refine r_iinc (v := v4 + 1) (lv' := [(4, .int (v4 + 1)), (6, .int t12), (5, .int (v2 + t6)), (0, .ref v0), (1, .int v1), (2, .int v2), (3, .int v3)]) dX1_uniteLikelihoods_133 6 rfl rfl (by decide) rfl ?_
      refine r_goto (tgt := 64) dX1_uniteLikelihoods_136 (by decide) ?_
      refine r_sub [3, 4, 5, 6, 0] rfl ?_
      exact ih v0 v1 v2 v3 (v4 + 1) S18 h

def F_X1_uniteLikelihoods_L50 (K12 : Nat → Int32 → Mem → Option Mem) : Nat → Nat → Int32 → Int32 → Int32 → Mem → Option Mem
  | 0, _, _, _, _, _ => none
  | fu + 1, v0, v1, v2, v3, S =>
    (pgR 1 1 S v0).bind fun t19 =>
    (pgI 4 2 S t19).bind fun t20 =>
    if t20 ≤ v3 then
      K12 v0 (v1 + 1) S
    else
      F_X1_uniteLikelihoods_L64 K12 (F_X1_uniteLikelihoods_L50 K12 fu) FU v0 v1 v2 v3 (0 : Int32) S
set_option maxRecDepth 100000 in
theorem T_X1_uniteLikelihoods_L50 {g : GG} {l : Launch} (hl : l.stackTraces = false) {S' : Mem}  {K12 : Nat → Int32 → Mem → Option Mem} (hK12 : ∀ (v0 : Nat) (v1 : Int32) (S : Mem), K12 v0 v1 S = some S' → Run g l uX1_uniteLikelihoods (fin g uX1_uniteLikelihoods cvV S') 12 [(0, .ref v0), (1, .int v1)] [] 0 0 S) : ∀ (fu : Nat) (v0 : Nat) (v1 : Int32) (v2 : Int32) (v3 : Int32) (S : Mem), F_X1_uniteLikelihoods_L50 K12 fu v0 v1 v2 v3 S = some S' → Run g l uX1_uniteLikelihoods (fin g uX1_uniteLikelihoods cvV S') 50 [(0, .ref v0), (1, .int v1), (2, .int v2), (3, .int v3)] [] 0 0 S := by
  intro fu
  induction fu with
  | zero =>
    intro v0 v1 v2 v3 S h
    cases (show none = some _ from h)
  | succ fu ih =>
    intro v0 v1 v2 v3 S h
    unfold F_X1_uniteLikelihoods_L50 at h
    refine r_iload_n dX1_uniteLikelihoods_50 rfl 3 rfl ?_
    refine r_aload_n dX1_uniteLikelihoods_51 rfl 0 rfl ?_
    obtain ⟨t19, h0, h⟩ := bd h
    refine q_getR h0 dX1_uniteLikelihoods_52 fl1_18 rfl ?_
    obtain ⟨t20, h0, h⟩ := bd h
    refine q_getI h0 dX1_uniteLikelihoods_55 fl1_61 rfl ?_
    refine r_icmp_ge (tgt := 145) dX1_uniteLikelihoods_58 (by decide) (fun c21 => ?_) (fun c21 => ?_)
    · rw [if_pos c21] at h
      refine r_iinc (v := v1 + 1) (lv' := [(1, .int (v1 + 1)), (0, .ref v0), (2, .int v2), (3, .int v3)]) dX1_uniteLikelihoods_145 1 rfl rfl (by decide) rfl ?_
      refine r_goto (tgt := 12) dX1_uniteLikelihoods_148 (by decide) ?_
      refine r_sub [1, 0] rfl ?_
      exact hK12 v0 (v1 + 1) S h
    · rw [if_neg c21] at h
      refine r_iconst (v := (0 : Int32)) dX1_uniteLikelihoods_61 (by decide) ?_
      refine r_istore (lv' := [(4, .int ((0 : Int32))), (0, .ref v0), (1, .int v1), (2, .int v2), (3, .int v3)]) dX1_uniteLikelihoods_62 (by decide) rfl ?_
      refine r_sub [1, 2, 3, 4, 0] rfl ?_
      exact T_X1_uniteLikelihoods_L64 hl hK12 (fun v0 v1 v2 v3 S h => ih v0 v1 v2 v3 S h) FU v0 v1 v2 v3 (0 : Int32) S h

def F_X1_uniteLikelihoods_L12 : Nat → Nat → Int32 → Mem → Option Mem
  | 0, _, _, _ => none
  | fu + 1, v0, v1, S =>
    if (2 : Int32) ≤ v1 then
      some S
    else
      (pgR 1 0 S v0).bind fun t23 =>
      (pgR 4 8 S t23).bind fun t24 =>
      (pgR 1 2 S v0).bind fun t25 =>
      (pgR 4 8 S t25).bind fun t26 =>
      (pgR 1 0 S v0).bind fun t27 =>
      (pk 4 S t27).bind fun _ =>
      bd2 (F_X4_pairs t27 S) fun t29 S30 =>
      (pcp S30 t24 ((10 : Int32) * v1) t26 ((10 : Int32) * v1) t29).bind fun S31 =>
      F_X1_uniteLikelihoods_L50 (F_X1_uniteLikelihoods_L12 fu) FU v0 v1 ((10 : Int32) * v1) (0 : Int32) S31
set_option maxRecDepth 100000 in
theorem T_X1_uniteLikelihoods_L12 {g : GG} {l : Launch} (hl : l.stackTraces = false) {S' : Mem}  : ∀ (fu : Nat) (v0 : Nat) (v1 : Int32) (S : Mem), F_X1_uniteLikelihoods_L12 fu v0 v1 S = some S' → Run g l uX1_uniteLikelihoods (fin g uX1_uniteLikelihoods cvV S') 12 [(0, .ref v0), (1, .int v1)] [] 0 0 S := by
  intro fu
  induction fu with
  | zero =>
    intro v0 v1 S h
    cases (show none = some _ from h)
  | succ fu ih =>
    intro v0 v1 S h
    unfold F_X1_uniteLikelihoods_L12 at h
    refine r_iload_n dX1_uniteLikelihoods_12 rfl 1 rfl ?_
    refine r_iconst (v := (2 : Int32)) dX1_uniteLikelihoods_13 (by decide) ?_
    refine r_icmp_ge (tgt := 151) dX1_uniteLikelihoods_14 (by decide) (fun c22 => ?_) (fun c22 => ?_)
    · rw [if_pos c22] at h
      cases h
      exact r_return dX1_uniteLikelihoods_151 rfl (by decide) (by decide)
    · rw [if_neg c22] at h
      refine r_bipush (v := (10 : Int32)) dX1_uniteLikelihoods_17 (by decide) ?_
      refine r_iload_n dX1_uniteLikelihoods_19 rfl 1 rfl ?_
      refine r_imul dX1_uniteLikelihoods_20 ?_
      refine r_istore_n (lv' := [(2, .int ((10 : Int32) * v1)), (0, .ref v0), (1, .int v1)]) dX1_uniteLikelihoods_21 rfl (by decide) rfl ?_
      refine r_aload_n dX1_uniteLikelihoods_22 rfl 1 rfl ?_
      obtain ⟨t23, h0, h⟩ := bd h
      refine q_getR h0 dX1_uniteLikelihoods_23 fl1_12 rfl ?_
      obtain ⟨t24, h0, h⟩ := bd h
      refine q_getR h0 dX1_uniteLikelihoods_26 fl1_97 rfl ?_
      refine r_iload_n dX1_uniteLikelihoods_29 rfl 0 rfl ?_
      refine r_aload_n dX1_uniteLikelihoods_30 rfl 1 rfl ?_
      obtain ⟨t25, h0, h⟩ := bd h
      refine q_getR h0 dX1_uniteLikelihoods_31 fl1_21 rfl ?_
      obtain ⟨t26, h0, h⟩ := bd h
      refine q_getR h0 dX1_uniteLikelihoods_34 fl1_97 rfl ?_
      refine r_iload_n dX1_uniteLikelihoods_37 rfl 0 rfl ?_
      refine r_aload_n dX1_uniteLikelihoods_38 rfl 1 rfl ?_
      obtain ⟨t27, h0, h⟩ := bd h
      refine q_getR h0 dX1_uniteLikelihoods_39 fl1_12 rfl ?_
      obtain ⟨z28, hk, h⟩ := bd h
      obtain ⟨t29, S30, h0, h⟩ := bd2_s h
      refine r_invV (As := []) (st := [.int ((10 : Int32) * v1), .ref t26, .int ((10 : Int32) * v1), .ref t24]) dX1_uniteLikelihoods_42 lv1_100 (by unfold RM; decide) (Nat.le_of_ble_eq_true rfl) rfl rfl (pk_ok hk) (T_X4_pairs hl h0) ?_
      obtain ⟨S31, h0, h⟩ := bd h
      refine q_copy h0 dX1_uniteLikelihoods_45 wy1_104 (by decide) (Nat.le_of_ble_eq_true rfl) ?_
      refine r_iconst (v := (0 : Int32)) dX1_uniteLikelihoods_48 (by decide) ?_
      refine r_istore_n (lv' := [(3, .int ((0 : Int32))), (2, .int ((10 : Int32) * v1)), (0, .ref v0), (1, .int v1)]) dX1_uniteLikelihoods_49 rfl (by decide) rfl ?_
      refine r_sub [2, 3, 1, 0] rfl ?_
      exact T_X1_uniteLikelihoods_L50 hl (fun v0 v1 S h => ih v0 v1 S h) FU v0 v1 ((10 : Int32) * v1) (0 : Int32) S31 h

def F_X1_uniteLikelihoods (v0 : Nat) (S : Mem) : Option Mem :=
    (pgR 1 2 S v0).bind fun t32 =>
    (pk 4 S t32).bind fun _ =>
    (F_X4_fillLikelihoods t32 (999 : Int32) S).bind fun S35 =>
    F_X1_uniteLikelihoods_L12 FU v0 (0 : Int32) S35
set_option maxRecDepth 100000 in
theorem T_X1_uniteLikelihoods {g : GG} {l : Launch} (hl : l.stackTraces = false) {v0 : Nat} {S S' : Mem} (h : F_X1_uniteLikelihoods v0 S = some S') : Call g l uX1_uniteLikelihoods [.ref v0] S cvV S' := by
  refine call_of (by decide +kernel) hl rfl (Nat.le_of_ble_eq_true rfl) ?_
  show Run g l uX1_uniteLikelihoods _ 0 [(0, .ref v0)] [] 0 0 S
  unfold F_X1_uniteLikelihoods at h
  refine r_aload_n dX1_uniteLikelihoods_0 rfl 0 rfl ?_
  obtain ⟨t32, h0, h⟩ := bd h
  refine q_getR h0 dX1_uniteLikelihoods_1 fl1_21 rfl ?_
  refine r_sipush (v := (999 : Int32)) dX1_uniteLikelihoods_4 (by decide) ?_
  obtain ⟨z33, hk, h⟩ := bd h
  obtain ⟨S35, h0, h⟩ := bd h
  refine r_invV (As := [.int ((999 : Int32))]) (st := []) dX1_uniteLikelihoods_7 lv1_93 (by unfold RM; decide) (Nat.le_of_ble_eq_true rfl) rfl rfl (pk_ok hk) (T_X4_fillLikelihoods hl h0) ?_
  refine r_iconst (v := (0 : Int32)) dX1_uniteLikelihoods_10 (by decide) ?_
  refine r_istore_n (lv' := [(1, .int ((0 : Int32))), (0, .ref v0)]) dX1_uniteLikelihoods_11 rfl (by decide) rfl ?_
  refine r_sub [1, 0] rfl ?_
  exact T_X1_uniteLikelihoods_L12 hl FU v0 (0 : Int32) S35 h

def F_X1_unite (v0 : Nat) (v1 : Nat) (v2 : Nat) (S : Mem) : Option (Int32 × Mem) :=
    (pgR 1 0 S v0).bind fun t1 =>
    (pk 4 S t1).bind fun _ =>
    (F_X4_copy t1 v1 S).bind fun S4 =>
    (pgR 1 1 S4 v0).bind fun t5 =>
    (pk 4 S4 t5).bind fun _ =>
    (F_X4_copy t5 v2 S4).bind fun S8 =>
    (pgR 1 0 S8 v0).bind fun t9 =>
    (pk 4 S8 t9).bind fun _ =>
    (F_X4_lengthenLike t9 v2 S8).bind fun S12 =>
    (pgR 1 1 S12 v0).bind fun t13 =>
    (pk 4 S12 t13).bind fun _ =>
    (F_X4_lengthenLike t13 v1 S12).bind fun S16 =>
    (pgR 1 0 S16 v0).bind fun t17 =>
    (pk 4 S16 t17).bind fun _ =>
    bd2 (F_X4_hasTooLongAllele t17 S16) fun t19 S20 =>
    if t19 = 0 then
      (pgR 1 1 S20 v0).bind fun t22 =>
      (pk 4 S20 t22).bind fun _ =>
      bd2 (F_X4_hasTooLongAllele t22 S20) fun t24 S25 =>
      if t24 = 0 then
        (pgR 1 2 S25 v0).bind fun t27 =>
        (pgR 1 0 S25 v0).bind fun t28 =>
        (pk 4 S25 t27).bind fun _ =>
        (F_X4_copy t27 t28 S25).bind fun S31 =>
        (pk 1 S31 v0).bind fun _ =>
        bd2 (F_X1_uniteAlleles v0 S31) fun t33 S34 =>
        if t33 = 0 then
          some ((0 : Int32), S34)
        else
          (pgR 1 2 S34 v0).bind fun t36 =>
          (pgR 1 0 S34 v0).bind fun t37 =>
          (pgI 4 1 S34 t37).bind fun t38 =>
          (pgR 1 1 S34 v0).bind fun t39 =>
          (pgI 4 1 S34 t39).bind fun t40 =>
          (ppI 4 1 S34 t36 (if t38 < t40 then t40 else t38)).bind fun S41 =>
          (pk 1 S41 v0).bind fun _ =>
          (F_X1_uniteDepths v0 S41).bind fun S44 =>
          (pk 1 S44 v0).bind fun _ =>
          (F_X1_uniteGenotypes v0 S44).bind fun S47 =>
          (pk 1 S47 v0).bind fun _ =>
          (F_X1_uniteLikelihoods v0 S47).bind fun S50 =>
          some ((1 : Int32), S50)
      else
        some ((0 : Int32), S25)
    else
      some ((0 : Int32), S20)
set_option maxRecDepth 100000 in
theorem T_X1_unite {g : GG} {l : Launch} (hl : l.stackTraces = false) {v0 : Nat} {v1 : Nat} {v2 : Nat} {S S' : Mem} {r : Int32} (h : F_X1_unite v0 v1 v2 S = some (r, S')) : Call g l uX1_unite [.ref v0, .ref v1, .ref v2] S (cvI r) S' := by
  refine call_of (by decide +kernel) hl rfl (Nat.le_of_ble_eq_true rfl) ?_
  show Run g l uX1_unite _ 0 [(0, .ref v0), (1, .ref v1), (2, .ref v2)] [] 0 0 S
  unfold F_X1_unite at h
  refine r_aload_n dX1_unite_0 rfl 0 rfl ?_
  obtain ⟨t1, h0, h⟩ := bd h
  refine q_getR h0 dX1_unite_1 fl1_12 rfl ?_
  refine r_aload_n dX1_unite_4 rfl 1 rfl ?_
  obtain ⟨z2, hk, h⟩ := bd h
  obtain ⟨S4, h0, h⟩ := bd h
  refine r_invV (As := [.ref v1]) (st := []) dX1_unite_5 lv1_28 (by unfold RM; decide) (Nat.le_of_ble_eq_true rfl) rfl rfl (pk_ok hk) (T_X4_copy hl h0) ?_
  refine r_aload_n dX1_unite_8 rfl 0 rfl ?_
  obtain ⟨t5, h0, h⟩ := bd h
  refine q_getR h0 dX1_unite_9 fl1_18 rfl ?_
  refine r_aload_n dX1_unite_12 rfl 2 rfl ?_
  obtain ⟨z6, hk, h⟩ := bd h
  obtain ⟨S8, h0, h⟩ := bd h
  refine r_invV (As := [.ref v2]) (st := []) dX1_unite_13 lv1_28 (by unfold RM; decide) (Nat.le_of_ble_eq_true rfl) rfl rfl (pk_ok hk) (T_X4_copy hl h0) ?_
  refine r_aload_n dX1_unite_16 rfl 0 rfl ?_
  obtain ⟨t9, h0, h⟩ := bd h
  refine q_getR h0 dX1_unite_17 fl1_12 rfl ?_
  refine r_aload_n dX1_unite_20 rfl 2 rfl ?_
  obtain ⟨z10, hk, h⟩ := bd h
  obtain ⟨S12, h0, h⟩ := bd h
  refine r_invV (As := [.ref v2]) (st := []) dX1_unite_21 lv1_32 (by unfold RM; decide) (Nat.le_of_ble_eq_true rfl) rfl rfl (pk_ok hk) (T_X4_lengthenLike hl h0) ?_
  refine r_aload_n dX1_unite_24 rfl 0 rfl ?_
  obtain ⟨t13, h0, h⟩ := bd h
  refine q_getR h0 dX1_unite_25 fl1_18 rfl ?_
  refine r_aload_n dX1_unite_28 rfl 1 rfl ?_
  obtain ⟨z14, hk, h⟩ := bd h
  obtain ⟨S16, h0, h⟩ := bd h
  refine r_invV (As := [.ref v1]) (st := []) dX1_unite_29 lv1_32 (by unfold RM; decide) (Nat.le_of_ble_eq_true rfl) rfl rfl (pk_ok hk) (T_X4_lengthenLike hl h0) ?_
  refine r_aload_n dX1_unite_32 rfl 0 rfl ?_
  obtain ⟨t17, h0, h⟩ := bd h
  refine q_getR h0 dX1_unite_33 fl1_12 rfl ?_
  obtain ⟨z18, hk, h⟩ := bd h
  obtain ⟨t19, S20, h0, h⟩ := bd2_s h
  refine r_invV (As := []) (st := []) dX1_unite_36 lv1_35 (by unfold RM; decide) (Nat.le_of_ble_eq_true rfl) rfl rfl (pk_ok hk) (T_X4_hasTooLongAllele hl h0) ?_
  refine r_if_ne (tgt := 52) dX1_unite_39 (by decide) (fun c21 => ?_) (fun c21 => ?_)
  · rw [if_neg c21] at h
    refine r_iconst (v := (0 : Int32)) dX1_unite_52 (by decide) ?_
    cases h
    exact r_ireturn dX1_unite_53 rfl (by decide) (by decide) (by decide)
  · rw [if_pos c21] at h
    refine r_aload_n dX1_unite_42 rfl 0 rfl ?_
    obtain ⟨t22, h0, h⟩ := bd h
    refine q_getR h0 dX1_unite_43 fl1_18 rfl ?_
    obtain ⟨z23, hk, h⟩ := bd h
    obtain ⟨t24, S25, h0, h⟩ := bd2_s h
    refine r_invV (As := []) (st := []) dX1_unite_46 lv1_35 (by unfold RM; decide) (Nat.le_of_ble_eq_true rfl) rfl rfl (pk_ok hk) (T_X4_hasTooLongAllele hl h0) ?_
    refine r_if_eq (tgt := 54) dX1_unite_49 (by decide) (fun c26 => ?_) (fun c26 => ?_)
    · rw [if_pos c26] at h
      refine r_aload_n dX1_unite_54 rfl 0 rfl ?_
      obtain ⟨t27, h0, h⟩ := bd h
      refine q_getR h0 dX1_unite_55 fl1_21 rfl ?_
      refine r_aload_n dX1_unite_58 rfl 0 rfl ?_
      obtain ⟨t28, h0, h⟩ := bd h
      refine q_getR h0 dX1_unite_59 fl1_12 rfl ?_
      obtain ⟨z29, hk, h⟩ := bd h
      obtain ⟨S31, h0, h⟩ := bd h
      refine r_invV (As := [.ref t28]) (st := []) dX1_unite_62 lv1_28 (by unfold RM; decide) (Nat.le_of_ble_eq_true rfl) rfl rfl (pk_ok hk) (T_X4_copy hl h0) ?_
      refine r_aload_n dX1_unite_65 rfl 0 rfl ?_
      obtain ⟨z32, hk, h⟩ := bd h
      obtain ⟨t33, S34, h0, h⟩ := bd2_s h
      refine r_invV (As := []) (st := []) dX1_unite_66 lv1_39 (by unfold RM; decide) (Nat.le_of_ble_eq_true rfl) rfl rfl (pk_ok hk) (T_X1_uniteAlleles hl h0) ?_
      refine r_if_ne (tgt := 74) dX1_unite_69 (by decide) (fun c35 => ?_) (fun c35 => ?_)
      · rw [if_neg c35] at h
        refine r_aload_n dX1_unite_74 rfl 0 rfl ?_
        obtain ⟨t36, h0, h⟩ := bd h
        refine q_getR h0 dX1_unite_75 fl1_21 rfl ?_
        refine r_aload_n dX1_unite_78 rfl 0 rfl ?_
        obtain ⟨t37, h0, h⟩ := bd h
        refine q_getR h0 dX1_unite_79 fl1_12 rfl ?_
        obtain ⟨t38, h0, h⟩ := bd h
        refine q_getI h0 dX1_unite_82 fl1_42 rfl ?_
        refine r_aload_n dX1_unite_85 rfl 0 rfl ?_
        obtain ⟨t39, h0, h⟩ := bd h
        refine q_getR h0 dX1_unite_86 fl1_18 rfl ?_
        obtain ⟨t40, h0, h⟩ := bd h
        refine q_getI h0 dX1_unite_89 fl1_42 rfl ?_
        refine r_max dX1_unite_92 wm1_46 w_max (by decide) (Nat.le_of_ble_eq_true rfl) (by decide) (by decide) ?_
        obtain ⟨S41, h0, h⟩ := bd h
        refine q_putI h0 dX1_unite_95 fl1_42 rfl ?_
        refine r_aload_n dX1_unite_98 rfl 0 rfl ?_
        obtain ⟨z42, hk, h⟩ := bd h
        obtain ⟨S44, h0, h⟩ := bd h
        refine r_invV (As := []) (st := []) dX1_unite_99 lv1_52 (by unfold RM; decide) (Nat.le_of_ble_eq_true rfl) rfl rfl (pk_ok hk) (T_X1_uniteDepths hl h0) ?_
        refine r_aload_n dX1_unite_102 rfl 0 rfl ?_
        obtain ⟨z45, hk, h⟩ := bd h
        obtain ⟨S47, h0, h⟩ := bd h
        refine r_invV (As := []) (st := []) dX1_unite_103 lv1_55 (by unfold RM; decide) (Nat.le_of_ble_eq_true rfl) rfl rfl (pk_ok hk) (T_X1_uniteGenotypes hl h0) ?_
        refine r_aload_n dX1_unite_106 rfl 0 rfl ?_
        obtain ⟨z48, hk, h⟩ := bd h
        obtain ⟨S50, h0, h⟩ := bd h
        refine r_invV (As := []) (st := []) dX1_unite_107 lv1_58 (by unfold RM; decide) (Nat.le_of_ble_eq_true rfl) rfl rfl (pk_ok hk) (T_X1_uniteLikelihoods hl h0) ?_
        refine r_iconst (v := (1 : Int32)) dX1_unite_110 (by decide) ?_
        cases h
        exact r_ireturn dX1_unite_111 rfl (by decide) (by decide) (by decide)
      · rw [if_pos c35] at h
        refine r_iconst (v := (0 : Int32)) dX1_unite_72 (by decide) ?_
        cases h
        exact r_ireturn dX1_unite_73 rfl (by decide) (by decide) (by decide)
    · rw [if_neg c26] at h
      refine r_iconst (v := (0 : Int32)) dX1_unite_52 (by decide) ?_
      cases h
      exact r_ireturn dX1_unite_53 rfl (by decide) (by decide) (by decide)

def F_X5_join (v0 : Nat) (v1 : Int32) (S : Mem) : Option ((Unit ⊕ String) × Mem) :=
    (pk 5 S v0).bind fun _ =>
    bdx (F_X5_requireRecord v0 v1 S) fun _ S3 =>
    (pgR 5 1 S3 v0).bind fun t5 =>
    (pgI 2 1 S3 t5).bind fun t6 =>
    if t6 ≤ (v1 + (1 : Int32)) then
      some (.inr "java/util/NoSuchElementException", S3)
    else
      (pgR 5 1 S3 v0).bind fun t8 =>
      (pgR 2 0 S3 t8).bind fun t9 =>
      (paR S3 t9 (v1 + (1 : Int32))).bind fun t10 =>
      (pgI 4 0 S3 t10).bind fun t11 =>
      (pgR 5 1 S3 v0).bind fun t12 =>
      (pgR 2 0 S3 t12).bind fun t13 =>
      (paR S3 t13 v1).bind fun t14 =>
      (pgI 4 0 S3 t14).bind fun t15 =>
      if t11 = t15 then
        (pgR 5 5 S3 v0).bind fun t17 =>
        (pgR 5 1 S3 v0).bind fun t18 =>
        (pgR 2 0 S3 t18).bind fun t19 =>
        (paR S3 t19 v1).bind fun t20 =>
        (pgR 5 1 S3 v0).bind fun t21 =>
        (pgR 2 0 S3 t21).bind fun t22 =>
        (paR S3 t22 (v1 + (1 : Int32))).bind fun t23 =>
        (pk 1 S3 t17).bind fun _ =>
        bd2 (F_X1_unite t17 t20 t23 S3) fun t25 S26 =>
        if t25 = 0 then
          some (.inr "java/lang/IllegalStateException", S26)
        else
          (pgR 5 1 S26 v0).bind fun t28 =>
          (pk 2 S26 t28).bind fun _ =>
          (F_X2_close t28 (v1 + (1 : Int32)) S26).bind fun S31 =>
          (pgR 5 1 S31 v0).bind fun t32 =>
          (pgR 2 0 S31 t32).bind fun t33 =>
          (paR S31 t33 v1).bind fun t34 =>
          (pgR 5 5 S31 v0).bind fun t35 =>
          (pgR 1 2 S31 t35).bind fun t36 =>
          (pk 4 S31 t34).bind fun _ =>
          (F_X4_copy t34 t36 S31).bind fun S39 =>
          some (.inl (), S39)
      else
        some (.inr "java/util/NoSuchElementException", S3)
set_option maxRecDepth 100000 in
theorem T_X5_join {g : GG} {l : Launch} (hl : l.stackTraces = false) {v0 : Nat} {v1 : Int32} {S S' : Mem} {r : Unit ⊕ String} (h : F_X5_join v0 v1 S = some (r, S')) : Call g l uX5_join [.ref v0, .int v1] S (cxV r) S' := by
  refine call_of (by decide +kernel) hl rfl (Nat.le_of_ble_eq_true rfl) ?_
  show Run g l uX5_join _ 0 [(0, .ref v0), (1, .int v1)] [] 0 0 S
  unfold F_X5_join at h
  refine r_aload_n dX5_join_0 rfl 0 rfl ?_
  refine r_iload_n dX5_join_1 rfl 1 rfl ?_
  obtain ⟨z1, hk, h⟩ := bd h
  rcases bdx_s h with ⟨t2, S3, h0, h⟩ | ⟨e4, h0, rfl⟩
  · refine r_invV (As := [.int v1]) (st := []) dX5_join_2 lv5_177 (by unfold RM; decide) (Nat.le_of_ble_eq_true rfl) rfl rfl (pk_ok hk) (T_X5_requireRecord hl h0) ?_
    refine r_iload_n dX5_join_5 rfl 1 rfl ?_
    refine r_iconst (v := (1 : Int32)) dX5_join_6 (by decide) ?_
    refine r_iadd dX5_join_7 ?_
    refine r_aload_n dX5_join_8 rfl 0 rfl ?_
    obtain ⟨t5, h0, h⟩ := bd h
    refine q_getR h0 dX5_join_9 fl5_19 rfl ?_
    obtain ⟨t6, h0, h⟩ := bd h
    refine q_getI h0 dX5_join_12 fl5_61 rfl ?_
    refine r_icmp_ge (tgt := 47) dX5_join_15 (by decide) (fun c7 => ?_) (fun c7 => ?_)
    · rw [if_pos c7] at h
      cases h
      exact r_throwN (text := "there is no next record with this place") tw_208_212 rfl (by decide) dX5_join_47 dX5_join_50 dX5_join_51 dX5_join_53 dX5_join_56 rfl rfl (by decide) (Nat.le_of_ble_eq_true rfl) (by decide) (by decide)
    · rw [if_neg c7] at h
      refine r_aload_n dX5_join_18 rfl 0 rfl ?_
      obtain ⟨t8, h0, h⟩ := bd h
      refine q_getR h0 dX5_join_19 fl5_19 rfl ?_
      obtain ⟨t9, h0, h⟩ := bd h
      refine q_getR h0 dX5_join_22 fl5_184 rfl ?_
      refine r_iload_n dX5_join_25 rfl 1 rfl ?_
      refine r_iconst (v := (1 : Int32)) dX5_join_26 (by decide) ?_
      refine r_iadd dX5_join_27 ?_
      obtain ⟨t10, h0, h⟩ := bd h
      refine q_aaload h0 dX5_join_28 ?_
      obtain ⟨t11, h0, h⟩ := bd h
      refine q_getI h0 dX5_join_29 fl5_90 rfl ?_
      refine r_aload_n dX5_join_32 rfl 0 rfl ?_
      obtain ⟨t12, h0, h⟩ := bd h
      refine q_getR h0 dX5_join_33 fl5_19 rfl ?_
      obtain ⟨t13, h0, h⟩ := bd h
      refine q_getR h0 dX5_join_36 fl5_184 rfl ?_
      refine r_iload_n dX5_join_39 rfl 1 rfl ?_
      obtain ⟨t14, h0, h⟩ := bd h
      refine q_aaload h0 dX5_join_40 ?_
      obtain ⟨t15, h0, h⟩ := bd h
      refine q_getI h0 dX5_join_41 fl5_90 rfl ?_
      refine r_icmp_eq (tgt := 57) dX5_join_44 (by decide) (fun c16 => ?_) (fun c16 => ?_)
      · rw [if_pos c16] at h
        refine r_aload_n dX5_join_57 rfl 0 rfl ?_
        obtain ⟨t17, h0, h⟩ := bd h
        refine q_getR h0 dX5_join_58 fl5_40 rfl ?_
        refine r_aload_n dX5_join_61 rfl 0 rfl ?_
        obtain ⟨t18, h0, h⟩ := bd h
        refine q_getR h0 dX5_join_62 fl5_19 rfl ?_
        obtain ⟨t19, h0, h⟩ := bd h
        refine q_getR h0 dX5_join_65 fl5_184 rfl ?_
        refine r_iload_n dX5_join_68 rfl 1 rfl ?_
        obtain ⟨t20, h0, h⟩ := bd h
        refine q_aaload h0 dX5_join_69 ?_
        refine r_aload_n dX5_join_70 rfl 0 rfl ?_
        obtain ⟨t21, h0, h⟩ := bd h
        refine q_getR h0 dX5_join_71 fl5_19 rfl ?_
        obtain ⟨t22, h0, h⟩ := bd h
        refine q_getR h0 dX5_join_74 fl5_184 rfl ?_
        refine r_iload_n dX5_join_77 rfl 1 rfl ?_
        refine r_iconst (v := (1 : Int32)) dX5_join_78 (by decide) ?_
        refine r_iadd dX5_join_79 ?_
        obtain ⟨t23, h0, h⟩ := bd h
        refine q_aaload h0 dX5_join_80 ?_
        obtain ⟨z24, hk, h⟩ := bd h
        obtain ⟨t25, S26, h0, h⟩ := bd2_s h
        refine r_invV (As := [.ref t20, .ref t23]) (st := []) dX5_join_81 lv5_213 (by unfold RM; decide) (Nat.le_of_ble_eq_true rfl) rfl rfl (pk_ok hk) (T_X1_unite hl h0) ?_
        refine r_if_ne (tgt := 97) dX5_join_84 (by decide) (fun c27 => ?_) (fun c27 => ?_)
        · rw [if_neg c27] at h
          refine r_aload_n dX5_join_97 rfl 0 rfl ?_
          obtain ⟨t28, h0, h⟩ := bd h
          refine q_getR h0 dX5_join_98 fl5_19 rfl ?_
          refine r_iload_n dX5_join_101 rfl 1 rfl ?_
          refine r_iconst (v := (1 : Int32)) dX5_join_102 (by decide) ?_
          refine r_iadd dX5_join_103 ?_
          obtain ⟨z29, hk, h⟩ := bd h
          obtain ⟨S31, h0, h⟩ := bd h
          refine r_invV (As := [.int (v1 + (1 : Int32))]) (st := []) dX5_join_104 lv5_181 (by unfold RM; decide) (Nat.le_of_ble_eq_true rfl) rfl rfl (pk_ok hk) (T_X2_close hl h0) ?_
          refine r_aload_n dX5_join_107 rfl 0 rfl ?_
          obtain ⟨t32, h0, h⟩ := bd h
          refine q_getR h0 dX5_join_108 fl5_19 rfl ?_
          obtain ⟨t33, h0, h⟩ := bd h
          refine q_getR h0 dX5_join_111 fl5_184 rfl ?_
          refine r_iload_n dX5_join_114 rfl 1 rfl ?_
          obtain ⟨t34, h0, h⟩ := bd h
          refine q_aaload h0 dX5_join_115 ?_
          refine r_aload_n dX5_join_116 rfl 0 rfl ?_
          obtain ⟨t35, h0, h⟩ := bd h
          refine q_getR h0 dX5_join_117 fl5_40 rfl ?_
          obtain ⟨t36, h0, h⟩ := bd h
          refine q_getR h0 dX5_join_120 fl5_219 rfl ?_
          obtain ⟨z37, hk, h⟩ := bd h
          obtain ⟨S39, h0, h⟩ := bd h
          refine r_invV (As := [.ref t36]) (st := []) dX5_join_123 lv5_188 (by unfold RM; decide) (Nat.le_of_ble_eq_true rfl) rfl rfl (pk_ok hk) (T_X4_copy hl h0) ?_
          cases h
          exact r_return dX5_join_126 rfl (by decide) (by decide)
        · rw [if_pos c27] at h
          cases h
          exact r_throwS (text := "more than four alleles, or one of more than 8 bases") tw_65_69 rfl (by decide) dX5_join_87 dX5_join_90 dX5_join_91 dX5_join_93 dX5_join_96 rfl rfl (by decide) (Nat.le_of_ble_eq_true rfl) (by decide) (by decide)
      · rw [if_neg c16] at h
        cases h
        exact r_throwN (text := "there is no next record with this place") tw_208_212 rfl (by decide) dX5_join_47 dX5_join_50 dX5_join_51 dX5_join_53 dX5_join_56 rfl rfl (by decide) (Nat.le_of_ble_eq_true rfl) (by decide) (by decide)
  · exact r_invV_x (As := [.int v1]) (st := []) dX5_join_2 lv5_177 (by unfold RM; decide) (Nat.le_of_ble_eq_true rfl) rfl rfl (pk_ok hk) rfl rfl (T_X5_requireRecord hl h0)

def F_X0_put (v0 : Nat) (v1 : Int32) (S : Mem) : Option Mem :=
    (pgI 0 1 S v0).bind fun t1 =>
    if (120 : Int32) ≤ t1 then
      some S
    else
      (pgR 0 0 S v0).bind fun t3 =>
      (pgI 0 1 S v0).bind fun t4 =>
      (psI S t3 t4 v1).bind fun S5 =>
      (pgI 0 1 S5 v0).bind fun t6 =>
      (ppI 0 1 S5 v0 (t6 + (1 : Int32))).bind fun S7 =>
      some S7
set_option maxRecDepth 100000 in
theorem T_X0_put {g : GG} {l : Launch} (hl : l.stackTraces = false) {v0 : Nat} {v1 : Int32} {S S' : Mem} (h : F_X0_put v0 v1 S = some S') : Call g l uX0_put [.ref v0, .int v1] S cvV S' := by
  refine call_of (by decide +kernel) hl rfl (Nat.le_of_ble_eq_true rfl) ?_
  show Run g l uX0_put _ 0 [(0, .ref v0), (1, .int v1)] [] 0 0 S
  unfold F_X0_put at h
  refine r_aload_n dX0_put_0 rfl 0 rfl ?_
  obtain ⟨t1, h0, h⟩ := bd h
  refine q_getI h0 dX0_put_1 fl0_15 rfl ?_
  refine r_bipush (v := (120 : Int32)) dX0_put_4 (by decide) ?_
  refine r_icmp_ge (tgt := 29) dX0_put_6 (by decide) (fun c2 => ?_) (fun c2 => ?_)
  · rw [if_pos c2] at h
    cases h
    exact r_return dX0_put_29 rfl (by decide) (by decide)
  · rw [if_neg c2] at h
    refine r_aload_n dX0_put_9 rfl 0 rfl ?_
    obtain ⟨t3, h0, h⟩ := bd h
    refine q_getR h0 dX0_put_10 fl0_9 rfl ?_
    refine r_aload_n dX0_put_13 rfl 0 rfl ?_
    obtain ⟨t4, h0, h⟩ := bd h
    refine q_getI h0 dX0_put_14 fl0_15 rfl ?_
    refine r_iload_n dX0_put_17 rfl 1 rfl ?_
    obtain ⟨S5, h0, h⟩ := bd h
    refine q_iastore h0 dX0_put_18 ?_
    refine r_aload_n dX0_put_19 rfl 0 rfl ?_
    refine r_dup dX0_put_20 rfl ?_
    obtain ⟨t6, h0, h⟩ := bd h
    refine q_getI h0 dX0_put_21 fl0_15 rfl ?_
    refine r_iconst (v := (1 : Int32)) dX0_put_24 (by decide) ?_
    refine r_iadd dX0_put_25 ?_
    obtain ⟨S7, h0, h⟩ := bd h
    refine q_putI h0 dX0_put_26 fl0_15 rfl ?_
    cases h
    exact r_return dX0_put_29 rfl (by decide) (by decide)

def F_X0_putNumber (v0 : Nat) (v1 : Int32) (v2 : Int32) (S : Mem) : Option Mem :=
    (pk 0 S v0).bind fun _ =>
    (F_X0_put v0 (v1 &&& (255 : Int32)) S).bind fun S3 =>
    if v2 = (2 : Int32) then
      (pk 0 S3 v0).bind fun _ =>
      (F_X0_put v0 (v1 >>> ((8 : Int32) &&& 31)) S3).bind fun S7 =>
      some S7
    else
      some S3
set_option maxRecDepth 100000 in
theorem T_X0_putNumber {g : GG} {l : Launch} (hl : l.stackTraces = false) {v0 : Nat} {v1 : Int32} {v2 : Int32} {S S' : Mem} (h : F_X0_putNumber v0 v1 v2 S = some S') : Call g l uX0_putNumber [.ref v0, .int v1, .int v2] S cvV S' := by
  refine call_of (by decide +kernel) hl rfl (Nat.le_of_ble_eq_true rfl) ?_
  show Run g l uX0_putNumber _ 0 [(0, .ref v0), (1, .int v1), (2, .int v2)] [] 0 0 S
  unfold F_X0_putNumber at h
  refine r_aload_n dX0_putNumber_0 rfl 0 rfl ?_
  refine r_iload_n dX0_putNumber_1 rfl 1 rfl ?_
  refine r_sipush (v := (255 : Int32)) dX0_putNumber_2 (by decide) ?_
  refine r_iand dX0_putNumber_5 ?_
  obtain ⟨z1, hk, h⟩ := bd h
  obtain ⟨S3, h0, h⟩ := bd h
  refine r_invV (As := [.int (v1 &&& (255 : Int32))]) (st := []) dX0_putNumber_6 lv0_22 (by unfold RM; decide) (Nat.le_of_ble_eq_true rfl) rfl rfl (pk_ok hk) (T_X0_put hl h0) ?_
  refine r_iload_n dX0_putNumber_9 rfl 2 rfl ?_
  refine r_iconst (v := (2 : Int32)) dX0_putNumber_10 (by decide) ?_
  refine r_icmp_ne (tgt := 22) dX0_putNumber_11 (by decide) (fun c4 => ?_) (fun c4 => ?_)
  · rw [if_neg c4] at h
    cases h
    exact r_return dX0_putNumber_22 rfl (by decide) (by decide)
  · rw [if_pos c4] at h
    refine r_aload_n dX0_putNumber_14 rfl 0 rfl ?_
    refine r_iload_n dX0_putNumber_15 rfl 1 rfl ?_
    refine r_bipush (v := (8 : Int32)) dX0_putNumber_16 (by decide) ?_
    refine r_ishr dX0_putNumber_18 ?_
    obtain ⟨z5, hk, h⟩ := bd h
    obtain ⟨S7, h0, h⟩ := bd h
    refine r_invV (As := [.int (v1 >>> ((8 : Int32) &&& 31))]) (st := []) dX0_putNumber_19 lv0_22 (by unfold RM; decide) (Nat.le_of_ble_eq_true rfl) rfl rfl (pk_ok hk) (T_X0_put hl h0) ?_
    cases h
    exact r_return dX0_putNumber_22 rfl (by decide) (by decide)

def F_X0_putAllele_L13 : Nat → Nat → Int32 → Int32 → Int32 → Mem → Option Mem
  | 0, _, _, _, _, _ => none
  | fu + 1, v0, v1, v2, v3, S =>
    if v2 ≤ v3 then
      some S
    else
      bd2 (F_X5_baseOf v1.toInt64 v2 v3 S) fun t2 S3 =>
      (ptL t2).bind fun t4 =>
      (pk 0 S3 v0).bind fun _ =>
      (F_X0_put v0 t4 S3).bind fun S7 =>
      F_X0_putAllele_L13 fu v0 v1 v2 (v3 + 1) S7
set_option maxRecDepth 100000 in
theorem T_X0_putAllele_L13 {g : GG} {l : Launch} (hl : l.stackTraces = false) {S' : Mem}  : ∀ (fu : Nat) (v0 : Nat) (v1 : Int32) (v2 : Int32) (v3 : Int32) (S : Mem), F_X0_putAllele_L13 fu v0 v1 v2 v3 S = some S' → Run g l uX0_putAllele (fin g uX0_putAllele cvV S') 13 [(0, .ref v0), (1, .int v1), (2, .int v2), (3, .int v3)] [] 0 0 S := by
  intro fu
  induction fu with
  | zero =>
    intro v0 v1 v2 v3 S h
    cases (show none = some _ from h)
  | succ fu ih =>
    intro v0 v1 v2 v3 S h
    unfold F_X0_putAllele_L13 at h
    refine r_iload_n dX0_putAllele_13 rfl 3 rfl ?_
    refine r_iload_n dX0_putAllele_14 rfl 2 rfl ?_
    refine r_icmp_ge (tgt := 39) dX0_putAllele_15 (by decide) (fun c1 => ?_) (fun c1 => ?_)
    · rw [if_pos c1] at h
      cases h
      exact r_return dX0_putAllele_39 rfl (by decide) (by decide)
    · rw [if_neg c1] at h
      refine r_aload_n dX0_putAllele_18 rfl 0 rfl ?_
      refine r_letters dX0_putAllele_19 wg0_71 ?_
      refine r_iload_n dX0_putAllele_22 rfl 1 rfl ?_
      refine r_i2l dX0_putAllele_23 ?_
      refine r_iload_n dX0_putAllele_24 rfl 2 rfl ?_
      refine r_iload_n dX0_putAllele_25 rfl 3 rfl ?_
      obtain ⟨t2, S3, h0, h⟩ := bd2_s h
      refine r_invN (As := [.long v1.toInt64, .int v2, .int v3]) (st := [.ref g.2.2.1, .ref v0]) dX0_putAllele_26 ln0_74 (by unfold RM; decide) (Nat.le_of_ble_eq_true rfl) rfl rfl (T_X5_baseOf hl h0) ?_
      obtain ⟨t4, h0, h⟩ := bd h
      refine q_letters h0 dX0_putAllele_29 ?_
      obtain ⟨z5, hk, h⟩ := bd h
      obtain ⟨S7, h0, h⟩ := bd h
      refine r_invV (As := [.int t4]) (st := []) dX0_putAllele_30 lv0_22 (by unfold RM; decide) (Nat.le_of_ble_eq_true rfl) rfl rfl (pk_ok hk) (T_X0_put hl h0) ?_
      refine r_iinc (v := v3 + 1) (lv' := [(3, .int (v3 + 1)), (0, .ref v0), (1, .int v1), (2, .int v2)]) dX0_putAllele_33 3 rfl rfl (by decide) rfl ?_
      refine r_goto (tgt := 13) dX0_putAllele_36 (by decide) ?_
      refine r_sub [1, 2, 3, 0] rfl ?_
      exact ih v0 v1 v2 (v3 + 1) S7 h

def F_X0_putAllele (v0 : Nat) (v1 : Int32) (v2 : Int32) (S : Mem) : Option Mem :=
    (pk 0 S v0).bind fun _ =>
    (F_X0_put v0 (((16 : Int32) * v2) + (7 : Int32)) S).bind fun S10 =>
    F_X0_putAllele_L13 FU v0 v1 v2 (0 : Int32) S10
set_option maxRecDepth 100000 in
theorem T_X0_putAllele {g : GG} {l : Launch} (hl : l.stackTraces = false) {v0 : Nat} {v1 : Int32} {v2 : Int32} {S S' : Mem} (h : F_X0_putAllele v0 v1 v2 S = some S') : Call g l uX0_putAllele [.ref v0, .int v1, .int v2] S cvV S' := by
  refine call_of (by decide +kernel) hl rfl (Nat.le_of_ble_eq_true rfl) ?_
  show Run g l uX0_putAllele _ 0 [(0, .ref v0), (1, .int v1), (2, .int v2)] [] 0 0 S
  unfold F_X0_putAllele at h
  refine r_aload_n dX0_putAllele_0 rfl 0 rfl ?_
  refine r_bipush (v := (16 : Int32)) dX0_putAllele_1 (by decide) ?_
  refine r_iload_n dX0_putAllele_3 rfl 2 rfl ?_
  refine r_imul dX0_putAllele_4 ?_
  refine r_bipush (v := (7 : Int32)) dX0_putAllele_5 (by decide) ?_
  refine r_iadd dX0_putAllele_7 ?_
  obtain ⟨z8, hk, h⟩ := bd h
  obtain ⟨S10, h0, h⟩ := bd h
  refine r_invV (As := [.int (((16 : Int32) * v2) + (7 : Int32))]) (st := []) dX0_putAllele_8 lv0_22 (by unfold RM; decide) (Nat.le_of_ble_eq_true rfl) rfl rfl (pk_ok hk) (T_X0_put hl h0) ?_
  refine r_iconst (v := (0 : Int32)) dX0_putAllele_11 (by decide) ?_
  refine r_istore_n (lv' := [(3, .int ((0 : Int32))), (0, .ref v0), (1, .int v1), (2, .int v2)]) dX0_putAllele_12 rfl (by decide) rfl ?_
  refine r_sub [1, 2, 3, 0] rfl ?_
  exact T_X0_putAllele_L13 hl FU v0 v1 v2 (0 : Int32) S10 h

def F_X0_putNumbers_L46 : Nat → Nat → Nat → Int32 → Int32 → Int32 → Int32 → Mem → Option Mem
  | 0, _, _, _, _, _, _, _ => none
  | fu + 1, v0, v1, v2, v3, v4, v5, S =>
    if (v2 + v3) ≤ v5 then
      some S
    else
      (paI S v1 v5).bind fun t2 =>
      (pk 0 S v0).bind fun _ =>
      (F_X0_putNumber v0 t2 v4 S).bind fun S5 =>
      F_X0_putNumbers_L46 fu v0 v1 v2 v3 v4 (v5 + 1) S5
set_option maxRecDepth 100000 in
theorem T_X0_putNumbers_L46 {g : GG} {l : Launch} (hl : l.stackTraces = false) {S' : Mem}  : ∀ (fu : Nat) (v0 : Nat) (v1 : Nat) (v2 : Int32) (v3 : Int32) (v4 : Int32) (v5 : Int32) (S : Mem), F_X0_putNumbers_L46 fu v0 v1 v2 v3 v4 v5 S = some S' → Run g l uX0_putNumbers (fin g uX0_putNumbers cvV S') 46 [(0, .ref v0), (1, .ref v1), (2, .int v2), (3, .int v3), (4, .int v4), (5, .int v5)] [] 0 0 S := by
  intro fu
  induction fu with
  | zero =>
    intro v0 v1 v2 v3 v4 v5 S h
    cases (show none = some _ from h)
  | succ fu ih =>
    intro v0 v1 v2 v3 v4 v5 S h
    unfold F_X0_putNumbers_L46 at h
    refine r_iload dX0_putNumbers_46 5 rfl ?_
    refine r_iload_n dX0_putNumbers_48 rfl 2 rfl ?_
    refine r_iload_n dX0_putNumbers_49 rfl 3 rfl ?_
    refine r_iadd dX0_putNumbers_50 ?_
    refine r_icmp_ge (tgt := 70) dX0_putNumbers_51 (by decide) (fun c1 => ?_) (fun c1 => ?_)
    · rw [if_pos c1] at h
      cases h
      exact r_return dX0_putNumbers_70 rfl (by decide) (by decide)
    · rw [if_neg c1] at h
      refine r_aload_n dX0_putNumbers_54 rfl 0 rfl ?_
      refine r_aload_n dX0_putNumbers_55 rfl 1 rfl ?_
      refine r_iload dX0_putNumbers_56 5 rfl ?_
      obtain ⟨t2, h0, h⟩ := bd h
      refine q_iaload h0 dX0_putNumbers_58 ?_
      refine r_iload dX0_putNumbers_59 4 rfl ?_
      obtain ⟨z3, hk, h⟩ := bd h
      obtain ⟨S5, h0, h⟩ := bd h
      refine r_invV (As := [.int t2, .int v4]) (st := []) dX0_putNumbers_61 lv0_31 (by unfold RM; decide) (Nat.le_of_ble_eq_true rfl) rfl rfl (pk_ok hk) (T_X0_putNumber hl h0) ?_
      refine r_iinc (v := v5 + 1) (lv' := [(5, .int (v5 + 1)), (0, .ref v0), (1, .ref v1), (2, .int v2), (3, .int v3), (4, .int v4)]) dX0_putNumbers_64 5 rfl rfl (by decide) rfl ?_
      refine r_goto (tgt := 46) dX0_putNumbers_67 (by decide) ?_
      refine r_sub [1, 2, 3, 4, 5, 0] rfl ?_
      exact ih v0 v1 v2 v3 v4 (v5 + 1) S5 h

def F_X0_putNumbers_J26 (K6 : Nat → Nat → Int32 → Int32 → Int32 → Int32 → Mem → Option Mem) (v0 : Nat) (v1 : Nat) (v2 : Int32) (v3 : Int32) (v4 : Int32) (v5 : Int32) (S : Mem) : Option Mem :=
    K6 v0 v1 v2 v3 v4 (v5 + 1) S
set_option maxRecDepth 100000 in
theorem T_X0_putNumbers_J26 {g : GG} {l : Launch} (hl : l.stackTraces = false) {S' : Mem}  {K6 : Nat → Nat → Int32 → Int32 → Int32 → Int32 → Mem → Option Mem} (hK6 : ∀ (v0 : Nat) (v1 : Nat) (v2 : Int32) (v3 : Int32) (v4 : Int32) (v5 : Int32) (S : Mem), K6 v0 v1 v2 v3 v4 v5 S = some S' → Run g l uX0_putNumbers (fin g uX0_putNumbers cvV S') 6 [(0, .ref v0), (1, .ref v1), (2, .int v2), (3, .int v3), (4, .int v4), (5, .int v5)] [] 0 0 S) : ∀ (v0 : Nat) (v1 : Nat) (v2 : Int32) (v3 : Int32) (v4 : Int32) (v5 : Int32) (S : Mem), F_X0_putNumbers_J26 K6 v0 v1 v2 v3 v4 v5 S = some S' → Run g l uX0_putNumbers (fin g uX0_putNumbers cvV S') 26 [(0, .ref v0), (1, .ref v1), (2, .int v2), (3, .int v3), (4, .int v4), (5, .int v5)] [] 0 0 S := by
  intro v0 v1 v2 v3 v4 v5 S h
  unfold F_X0_putNumbers_J26 at h
  refine r_iinc (v := v5 + 1) (lv' := [(5, .int (v5 + 1)), (0, .ref v0), (1, .ref v1), (2, .int v2), (3, .int v3), (4, .int v4)]) dX0_putNumbers_26 5 rfl rfl (by decide) rfl ?_
  refine r_goto (tgt := 6) dX0_putNumbers_29 (by decide) ?_
  refine r_sub [1, 2, 3, 4, 5, 0] rfl ?_
  exact hK6 v0 v1 v2 v3 v4 (v5 + 1) S h

def F_X0_putNumbers_L6 : Nat → Nat → Nat → Int32 → Int32 → Int32 → Int32 → Mem → Option Mem
  | 0, _, _, _, _, _, _, _ => none
  | fu + 1, v0, v1, v2, v3, v4, v5, S =>
    if (v2 + v3) ≤ v5 then
      (pk 0 S v0).bind fun _ =>
      (F_X0_put v0 (((16 : Int32) * v3) + v4) S).bind fun S9 =>
      F_X0_putNumbers_L46 FU v0 v1 v2 v3 v4 v2 S9
    else
      (paI S v1 v5).bind fun t10 =>
      if t10 ≤ (127 : Int32) then
        F_X0_putNumbers_J26 (F_X0_putNumbers_L6 fu) v0 v1 v2 v3 v4 v5 S
      else
        F_X0_putNumbers_J26 (F_X0_putNumbers_L6 fu) v0 v1 v2 v3 (2 : Int32) v5 S
set_option maxRecDepth 100000 in
theorem T_X0_putNumbers_L6 {g : GG} {l : Launch} (hl : l.stackTraces = false) {S' : Mem}  : ∀ (fu : Nat) (v0 : Nat) (v1 : Nat) (v2 : Int32) (v3 : Int32) (v4 : Int32) (v5 : Int32) (S : Mem), F_X0_putNumbers_L6 fu v0 v1 v2 v3 v4 v5 S = some S' → Run g l uX0_putNumbers (fin g uX0_putNumbers cvV S') 6 [(0, .ref v0), (1, .ref v1), (2, .int v2), (3, .int v3), (4, .int v4), (5, .int v5)] [] 0 0 S := by
  intro fu
  induction fu with
  | zero =>
    intro v0 v1 v2 v3 v4 v5 S h
    cases (show none = some _ from h)
  | succ fu ih =>
    intro v0 v1 v2 v3 v4 v5 S h
    unfold F_X0_putNumbers_L6 at h
    refine r_iload dX0_putNumbers_6 5 rfl ?_
    refine r_iload_n dX0_putNumbers_8 rfl 2 rfl ?_
    refine r_iload_n dX0_putNumbers_9 rfl 3 rfl ?_
    refine r_iadd dX0_putNumbers_10 ?_
    refine r_icmp_ge (tgt := 32) dX0_putNumbers_11 (by decide) (fun c6 => ?_) (fun c6 => ?_)
    · rw [if_pos c6] at h
      refine r_aload_n dX0_putNumbers_32 rfl 0 rfl ?_
      refine r_bipush (v := (16 : Int32)) dX0_putNumbers_33 (by decide) ?_
      refine r_iload_n dX0_putNumbers_35 rfl 3 rfl ?_
      refine r_imul dX0_putNumbers_36 ?_
      refine r_iload dX0_putNumbers_37 4 rfl ?_
      refine r_iadd dX0_putNumbers_39 ?_
      obtain ⟨z7, hk, h⟩ := bd h
      obtain ⟨S9, h0, h⟩ := bd h
      refine r_invV (As := [.int (((16 : Int32) * v3) + v4)]) (st := []) dX0_putNumbers_40 lv0_22 (by unfold RM; decide) (Nat.le_of_ble_eq_true rfl) rfl rfl (pk_ok hk) (T_X0_put hl h0) ?_
      refine r_iload_n dX0_putNumbers_43 rfl 2 rfl ?_
      refine r_istore (lv' := [(5, .int v2), (0, .ref v0), (1, .ref v1), (2, .int v2), (3, .int v3), (4, .int v4)]) dX0_putNumbers_44 (by decide) rfl ?_
      refine r_sub [1, 2, 3, 4, 5, 0] rfl ?_
      exact T_X0_putNumbers_L46 hl FU v0 v1 v2 v3 v4 v2 S9 h
    · rw [if_neg c6] at h
      refine r_aload_n dX0_putNumbers_14 rfl 1 rfl ?_
      refine r_iload dX0_putNumbers_15 5 rfl ?_
      obtain ⟨t10, h0, h⟩ := bd h
      refine q_iaload h0 dX0_putNumbers_17 ?_
      refine r_bipush (v := (127 : Int32)) dX0_putNumbers_18 (by decide) ?_
      refine r_icmp_le (tgt := 26) dX0_putNumbers_20 (by decide) (fun c11 => ?_) (fun c11 => ?_)
      · rw [if_pos c11] at h
        exact T_X0_putNumbers_J26 hl (fun v0 v1 v2 v3 v4 v5 S h => ih v0 v1 v2 v3 v4 v5 S h) v0 v1 v2 v3 v4 v5 S h
      · rw [if_neg c11] at h
        refine r_iconst (v := (2 : Int32)) dX0_putNumbers_23 (by decide) ?_
        refine r_istore (lv' := [(4, .int ((2 : Int32))), (0, .ref v0), (1, .ref v1), (2, .int v2), (3, .int v3), (5, .int v5)]) dX0_putNumbers_24 (by decide) rfl ?_
        refine r_sub [1, 2, 3, 4, 0, 5] rfl ?_
        exact T_X0_putNumbers_J26 hl (fun v0 v1 v2 v3 v4 v5 S h => ih v0 v1 v2 v3 v4 v5 S h) v0 v1 v2 v3 (2 : Int32) v5 S h

def F_X0_putNumbers (v0 : Nat) (v1 : Nat) (v2 : Int32) (v3 : Int32) (S : Mem) : Option Mem :=
    F_X0_putNumbers_L6 FU v0 v1 v2 v3 (1 : Int32) v2 S
set_option maxRecDepth 100000 in
theorem T_X0_putNumbers {g : GG} {l : Launch} (hl : l.stackTraces = false) {v0 : Nat} {v1 : Nat} {v2 : Int32} {v3 : Int32} {S S' : Mem} (h : F_X0_putNumbers v0 v1 v2 v3 S = some S') : Call g l uX0_putNumbers [.ref v0, .ref v1, .int v2, .int v3] S cvV S' := by
  refine call_of (by decide +kernel) hl rfl (Nat.le_of_ble_eq_true rfl) ?_
  show Run g l uX0_putNumbers _ 0 [(0, .ref v0), (1, .ref v1), (2, .int v2), (3, .int v3)] [] 0 0 S
  unfold F_X0_putNumbers at h
  refine r_iconst (v := (1 : Int32)) dX0_putNumbers_0 (by decide) ?_
  refine r_istore (lv' := [(4, .int ((1 : Int32))), (0, .ref v0), (1, .ref v1), (2, .int v2), (3, .int v3)]) dX0_putNumbers_1 (by decide) rfl ?_
  refine r_iload_n dX0_putNumbers_3 rfl 3 rfl ?_
  refine r_istore (lv' := [(5, .int v2), (4, .int ((1 : Int32))), (0, .ref v0), (1, .ref v1), (2, .int v2), (3, .int v3)]) dX0_putNumbers_4 (by decide) rfl ?_
  refine r_sub [2, 3, 4, 5, 1, 0] rfl ?_
  exact T_X0_putNumbers_L6 hl FU v0 v1 v2 v3 (1 : Int32) v2 S h

def F_X0_putVariant_J103 (K78 : Nat → Nat → Int32 → Mem → Option Mem) (v0 : Nat) (v1 : Nat) (v2 : Int32) (s0 : Int32) (S : Mem) : Option Mem :=
    (pgR 4 6 S v1).bind fun t1 =>
    (paI S t1 ((2 : Int32) * v2)).bind fun t2 =>
    (pk 0 S v0).bind fun _ =>
    (F_X0_put v0 (((2 : Int32) * (t2 + (1 : Int32))) + s0) S).bind fun S5 =>
    (pgR 4 6 S5 v1).bind fun t6 =>
    (paI S5 t6 (((2 : Int32) * v2) + (1 : Int32))).bind fun t7 =>
    (pk 0 S5 v0).bind fun _ =>
    (F_X0_put v0 (((2 : Int32) * (t7 + (1 : Int32))) + s0) S5).bind fun S10 =>
    (pgR 4 8 S10 v1).bind fun t11 =>
    (pk 4 S10 v1).bind fun _ =>
    bd2 (F_X4_pairs v1 S10) fun t13 S14 =>
    (pk 0 S14 v0).bind fun _ =>
    (F_X0_putNumbers v0 t11 ((10 : Int32) * v2) t13 S14).bind fun S17 =>
    K78 v0 v1 (v2 + 1) S17
set_option maxRecDepth 100000 in
theorem T_X0_putVariant_J103 {g : GG} {l : Launch} (hl : l.stackTraces = false) {S' : Mem}  {K78 : Nat → Nat → Int32 → Mem → Option Mem} (hK78 : ∀ (v0 : Nat) (v1 : Nat) (v2 : Int32) (S : Mem), K78 v0 v1 v2 S = some S' → Run g l uX0_putVariant (fin g uX0_putVariant cvV S') 78 [(0, .ref v0), (1, .ref v1), (2, .int v2)] [] 0 0 S) : ∀ (v0 : Nat) (v1 : Nat) (v2 : Int32) (s0 : Int32) (S : Mem), F_X0_putVariant_J103 K78 v0 v1 v2 s0 S = some S' → Run g l uX0_putVariant (fin g uX0_putVariant cvV S') 103 [(0, .ref v0), (1, .ref v1), (2, .int v2)] [.int s0] 0 0 S := by
  intro v0 v1 v2 s0 S h
  unfold F_X0_putVariant_J103 at h
  refine r_istore_n (lv' := [(3, .int s0), (0, .ref v0), (1, .ref v1), (2, .int v2)]) dX0_putVariant_103 rfl (by decide) rfl ?_
  refine r_aload_n dX0_putVariant_104 rfl 1 rfl ?_
  refine r_iconst (v := (2 : Int32)) dX0_putVariant_105 (by decide) ?_
  refine r_aload_n dX0_putVariant_106 rfl 2 rfl ?_
  obtain ⟨t1, h0, h⟩ := bd h
  refine q_getR h0 dX0_putVariant_107 fl0_61 rfl ?_
  refine r_iconst (v := (2 : Int32)) dX0_putVariant_110 (by decide) ?_
  refine r_iload_n dX0_putVariant_111 rfl 3 rfl ?_
  refine r_imul dX0_putVariant_112 ?_
  obtain ⟨t2, h0, h⟩ := bd h
  refine q_iaload h0 dX0_putVariant_113 ?_
  refine r_iconst (v := (1 : Int32)) dX0_putVariant_114 (by decide) ?_
  refine r_iadd dX0_putVariant_115 ?_
  refine r_imul dX0_putVariant_116 ?_
  refine r_iload_n dX0_putVariant_117 rfl 0 rfl ?_
  refine r_iadd dX0_putVariant_118 ?_
  obtain ⟨z3, hk, h⟩ := bd h
  obtain ⟨S5, h0, h⟩ := bd h
  refine r_invV (As := [.int (((2 : Int32) * (t2 + (1 : Int32))) + s0)]) (st := []) dX0_putVariant_119 lv0_22 (by unfold RM; decide) (Nat.le_of_ble_eq_true rfl) rfl rfl (pk_ok hk) (T_X0_put hl h0) ?_
  refine r_aload_n dX0_putVariant_122 rfl 1 rfl ?_
  refine r_iconst (v := (2 : Int32)) dX0_putVariant_123 (by decide) ?_
  refine r_aload_n dX0_putVariant_124 rfl 2 rfl ?_
  obtain ⟨t6, h0, h⟩ := bd h
  refine q_getR h0 dX0_putVariant_125 fl0_61 rfl ?_
  refine r_iconst (v := (2 : Int32)) dX0_putVariant_128 (by decide) ?_
  refine r_iload_n dX0_putVariant_129 rfl 3 rfl ?_
  refine r_imul dX0_putVariant_130 ?_
  refine r_iconst (v := (1 : Int32)) dX0_putVariant_131 (by decide) ?_
  refine r_iadd dX0_putVariant_132 ?_
  obtain ⟨t7, h0, h⟩ := bd h
  refine q_iaload h0 dX0_putVariant_133 ?_
  refine r_iconst (v := (1 : Int32)) dX0_putVariant_134 (by decide) ?_
  refine r_iadd dX0_putVariant_135 ?_
  refine r_imul dX0_putVariant_136 ?_
  refine r_iload_n dX0_putVariant_137 rfl 0 rfl ?_
  refine r_iadd dX0_putVariant_138 ?_
  obtain ⟨z8, hk, h⟩ := bd h
  obtain ⟨S10, h0, h⟩ := bd h
  refine r_invV (As := [.int (((2 : Int32) * (t7 + (1 : Int32))) + s0)]) (st := []) dX0_putVariant_139 lv0_22 (by unfold RM; decide) (Nat.le_of_ble_eq_true rfl) rfl rfl (pk_ok hk) (T_X0_put hl h0) ?_
  refine r_aload_n dX0_putVariant_142 rfl 1 rfl ?_
  refine r_aload_n dX0_putVariant_143 rfl 2 rfl ?_
  obtain ⟨t11, h0, h⟩ := bd h
  refine q_getR h0 dX0_putVariant_144 fl0_64 rfl ?_
  refine r_bipush (v := (10 : Int32)) dX0_putVariant_147 (by decide) ?_
  refine r_iload_n dX0_putVariant_149 rfl 3 rfl ?_
  refine r_imul dX0_putVariant_150 ?_
  refine r_aload_n dX0_putVariant_151 rfl 2 rfl ?_
  obtain ⟨z12, hk, h⟩ := bd h
  obtain ⟨t13, S14, h0, h⟩ := bd2_s h
  refine r_invV (As := []) (st := [.int ((10 : Int32) * v2), .ref t11, .ref v0]) dX0_putVariant_152 lv0_67 (by unfold RM; decide) (Nat.le_of_ble_eq_true rfl) rfl rfl (pk_ok hk) (T_X4_pairs hl h0) ?_
  obtain ⟨z15, hk, h⟩ := bd h
  obtain ⟨S17, h0, h⟩ := bd h
  refine r_invV (As := [.ref t11, .int ((10 : Int32) * v2), .int t13]) (st := []) dX0_putVariant_155 lv0_53 (by unfold RM; decide) (Nat.le_of_ble_eq_true rfl) rfl rfl (pk_ok hk) (T_X0_putNumbers hl h0) ?_
  refine r_iinc (v := v2 + 1) (lv' := [(2, .int (v2 + 1)), (3, .int s0), (0, .ref v0), (1, .ref v1)]) dX0_putVariant_158 3 rfl rfl (by decide) rfl ?_
  refine r_goto (tgt := 78) dX0_putVariant_161 (by decide) ?_
  refine r_sub [2, 3, 0] rfl ?_
  exact hK78 v0 v1 (v2 + 1) S17 h

def F_X0_putVariant_L78 : Nat → Nat → Nat → Int32 → Mem → Option Mem
  | 0, _, _, _, _ => none
  | fu + 1, v0, v1, v2, S =>
    if (2 : Int32) ≤ v2 then
      some S
    else
      (pk 0 S v0).bind fun _ =>
      (F_X0_put v0 (33 : Int32) S).bind fun S21 =>
      (pgR 4 7 S21 v1).bind fun t22 =>
      (paZ S21 t22 v2).bind fun t23 =>
      if t23 = 0 then
        F_X0_putVariant_J103 (F_X0_putVariant_L78 fu) v0 v1 v2 (0 : Int32) S21
      else
        F_X0_putVariant_J103 (F_X0_putVariant_L78 fu) v0 v1 v2 (1 : Int32) S21
set_option maxRecDepth 100000 in
theorem T_X0_putVariant_L78 {g : GG} {l : Launch} (hl : l.stackTraces = false) {S' : Mem}  : ∀ (fu : Nat) (v0 : Nat) (v1 : Nat) (v2 : Int32) (S : Mem), F_X0_putVariant_L78 fu v0 v1 v2 S = some S' → Run g l uX0_putVariant (fin g uX0_putVariant cvV S') 78 [(0, .ref v0), (1, .ref v1), (2, .int v2)] [] 0 0 S := by
  intro fu
  induction fu with
  | zero =>
    intro v0 v1 v2 S h
    cases (show none = some _ from h)
  | succ fu ih =>
    intro v0 v1 v2 S h
    unfold F_X0_putVariant_L78 at h
    refine r_iload_n dX0_putVariant_78 rfl 2 rfl ?_
    refine r_iconst (v := (2 : Int32)) dX0_putVariant_79 (by decide) ?_
    refine r_icmp_ge (tgt := 164) dX0_putVariant_80 (by decide) (fun c18 => ?_) (fun c18 => ?_)
    · rw [if_pos c18] at h
      cases h
      exact r_return dX0_putVariant_164 rfl (by decide) (by decide)
    · rw [if_neg c18] at h
      refine r_aload_n dX0_putVariant_83 rfl 0 rfl ?_
      refine r_bipush (v := (33 : Int32)) dX0_putVariant_84 (by decide) ?_
      obtain ⟨z19, hk, h⟩ := bd h
      obtain ⟨S21, h0, h⟩ := bd h
      refine r_invV (As := [.int ((33 : Int32))]) (st := []) dX0_putVariant_86 lv0_22 (by unfold RM; decide) (Nat.le_of_ble_eq_true rfl) rfl rfl (pk_ok hk) (T_X0_put hl h0) ?_
      refine r_aload_n dX0_putVariant_89 rfl 1 rfl ?_
      obtain ⟨t22, h0, h⟩ := bd h
      refine q_getR h0 dX0_putVariant_90 fl0_57 rfl ?_
      refine r_iload_n dX0_putVariant_93 rfl 2 rfl ?_
      obtain ⟨t23, h0, h⟩ := bd h
      refine q_baload h0 dX0_putVariant_94 ?_
      refine r_if_eq (tgt := 102) dX0_putVariant_95 (by decide) (fun c24 => ?_) (fun c24 => ?_)
      · rw [if_pos c24] at h
        refine r_iconst (v := (0 : Int32)) dX0_putVariant_102 (by decide) ?_
        exact T_X0_putVariant_J103 hl (fun v0 v1 v2 S h => ih v0 v1 v2 S h) v0 v1 v2 (0 : Int32) S21 h
      · rw [if_neg c24] at h
        refine r_iconst (v := (1 : Int32)) dX0_putVariant_98 (by decide) ?_
        refine r_goto (tgt := 103) dX0_putVariant_99 (by decide) ?_
        exact T_X0_putVariant_J103 hl (fun v0 v1 v2 S h => ih v0 v1 v2 S h) v0 v1 v2 (1 : Int32) S21 h

def F_X0_putVariant_L33 : Nat → Nat → Nat → Int32 → Mem → Option Mem
  | 0, _, _, _, _ => none
  | fu + 1, v0, v1, v2, S =>
    (pgI 4 2 S v1).bind fun t25 =>
    if t25 ≤ v2 then
      (pgR 4 5 S v1).bind fun t27 =>
      (pgI 4 2 S v1).bind fun t28 =>
      (pk 0 S v0).bind fun _ =>
      (F_X0_putNumbers v0 t27 (0 : Int32) t28 S).bind fun S31 =>
      F_X0_putVariant_L78 FU v0 v1 (0 : Int32) S31
    else
      (pgR 4 3 S v1).bind fun t32 =>
      (paI S t32 v2).bind fun t33 =>
      (pgR 4 4 S v1).bind fun t34 =>
      (paI S t34 v2).bind fun t35 =>
      (pk 0 S v0).bind fun _ =>
      (F_X0_putAllele v0 t33 t35 S).bind fun S38 =>
      F_X0_putVariant_L33 fu v0 v1 (v2 + 1) S38
set_option maxRecDepth 100000 in
theorem T_X0_putVariant_L33 {g : GG} {l : Launch} (hl : l.stackTraces = false) {S' : Mem}  : ∀ (fu : Nat) (v0 : Nat) (v1 : Nat) (v2 : Int32) (S : Mem), F_X0_putVariant_L33 fu v0 v1 v2 S = some S' → Run g l uX0_putVariant (fin g uX0_putVariant cvV S') 33 [(0, .ref v0), (1, .ref v1), (2, .int v2)] [] 0 0 S := by
  intro fu
  induction fu with
  | zero =>
    intro v0 v1 v2 S h
    cases (show none = some _ from h)
  | succ fu ih =>
    intro v0 v1 v2 S h
    unfold F_X0_putVariant_L33 at h
    refine r_iload_n dX0_putVariant_33 rfl 2 rfl ?_
    refine r_aload_n dX0_putVariant_34 rfl 1 rfl ?_
    obtain ⟨t25, h0, h⟩ := bd h
    refine q_getI h0 dX0_putVariant_35 fl0_38 rfl ?_
    refine r_icmp_ge (tgt := 63) dX0_putVariant_38 (by decide) (fun c26 => ?_) (fun c26 => ?_)
    · rw [if_pos c26] at h
      refine r_aload_n dX0_putVariant_63 rfl 0 rfl ?_
      refine r_aload_n dX0_putVariant_64 rfl 1 rfl ?_
      obtain ⟨t27, h0, h⟩ := bd h
      refine q_getR h0 dX0_putVariant_65 fl0_50 rfl ?_
      refine r_iconst (v := (0 : Int32)) dX0_putVariant_68 (by decide) ?_
      refine r_aload_n dX0_putVariant_69 rfl 1 rfl ?_
      obtain ⟨t28, h0, h⟩ := bd h
      refine q_getI h0 dX0_putVariant_70 fl0_38 rfl ?_
      obtain ⟨z29, hk, h⟩ := bd h
      obtain ⟨S31, h0, h⟩ := bd h
      refine r_invV (As := [.ref t27, .int ((0 : Int32)), .int t28]) (st := []) dX0_putVariant_73 lv0_53 (by unfold RM; decide) (Nat.le_of_ble_eq_true rfl) rfl rfl (pk_ok hk) (T_X0_putNumbers hl h0) ?_
      refine r_iconst (v := (0 : Int32)) dX0_putVariant_76 (by decide) ?_
      refine r_istore_n (lv' := [(2, .int ((0 : Int32))), (0, .ref v0), (1, .ref v1)]) dX0_putVariant_77 rfl (by decide) rfl ?_
      refine r_sub [1, 2, 0] rfl ?_
      exact T_X0_putVariant_L78 hl FU v0 v1 (0 : Int32) S31 h
    · rw [if_neg c26] at h
      refine r_aload_n dX0_putVariant_41 rfl 0 rfl ?_
      refine r_aload_n dX0_putVariant_42 rfl 1 rfl ?_
      obtain ⟨t32, h0, h⟩ := bd h
      refine q_getR h0 dX0_putVariant_43 fl0_41 rfl ?_
      refine r_iload_n dX0_putVariant_46 rfl 2 rfl ?_
      obtain ⟨t33, h0, h⟩ := bd h
      refine q_iaload h0 dX0_putVariant_47 ?_
      refine r_aload_n dX0_putVariant_48 rfl 1 rfl ?_
      obtain ⟨t34, h0, h⟩ := bd h
      refine q_getR h0 dX0_putVariant_49 fl0_44 rfl ?_
      refine r_iload_n dX0_putVariant_52 rfl 2 rfl ?_
      obtain ⟨t35, h0, h⟩ := bd h
      refine q_iaload h0 dX0_putVariant_53 ?_
      obtain ⟨z36, hk, h⟩ := bd h
      obtain ⟨S38, h0, h⟩ := bd h
      refine r_invV (As := [.int t33, .int t35]) (st := []) dX0_putVariant_54 lv0_47 (by unfold RM; decide) (Nat.le_of_ble_eq_true rfl) rfl rfl (pk_ok hk) (T_X0_putAllele hl h0) ?_
      refine r_iinc (v := v2 + 1) (lv' := [(2, .int (v2 + 1)), (0, .ref v0), (1, .ref v1)]) dX0_putVariant_57 2 rfl rfl (by decide) rfl ?_
      refine r_goto (tgt := 33) dX0_putVariant_60 (by decide) ?_
      refine r_sub [1, 2, 0] rfl ?_
      exact ih v0 v1 (v2 + 1) S38 h

def F_X0_putVariant (v0 : Nat) (v1 : Nat) (S : Mem) : Option Mem :=
    (ppI 0 1 S v0 (0 : Int32)).bind fun S39 =>
    (pgI 4 0 S39 v1).bind fun t40 =>
    (pk 0 S39 v0).bind fun _ =>
    (F_X0_putNumber v0 t40 (2 : Int32) S39).bind fun S43 =>
    (pgI 4 1 S43 v1).bind fun t44 =>
    (pk 0 S43 v0).bind fun _ =>
    (F_X0_putNumber v0 t44 (2 : Int32) S43).bind fun S47 =>
    (pgI 4 2 S47 v1).bind fun t48 =>
    (pk 0 S47 v0).bind fun _ =>
    (F_X0_put v0 t48 S47).bind fun S51 =>
    F_X0_putVariant_L33 FU v0 v1 (0 : Int32) S51
set_option maxRecDepth 100000 in
theorem T_X0_putVariant {g : GG} {l : Launch} (hl : l.stackTraces = false) {v0 : Nat} {v1 : Nat} {S S' : Mem} (h : F_X0_putVariant v0 v1 S = some S') : Call g l uX0_putVariant [.ref v0, .ref v1] S cvV S' := by
  refine call_of (by decide +kernel) hl rfl (Nat.le_of_ble_eq_true rfl) ?_
  show Run g l uX0_putVariant _ 0 [(0, .ref v0), (1, .ref v1)] [] 0 0 S
  unfold F_X0_putVariant at h
  refine r_aload_n dX0_putVariant_0 rfl 0 rfl ?_
  refine r_iconst (v := (0 : Int32)) dX0_putVariant_1 (by decide) ?_
  obtain ⟨S39, h0, h⟩ := bd h
  refine q_putI h0 dX0_putVariant_2 fl0_15 rfl ?_
  refine r_aload_n dX0_putVariant_5 rfl 0 rfl ?_
  refine r_aload_n dX0_putVariant_6 rfl 1 rfl ?_
  obtain ⟨t40, h0, h⟩ := bd h
  refine q_getI h0 dX0_putVariant_7 fl0_26 rfl ?_
  refine r_iconst (v := (2 : Int32)) dX0_putVariant_10 (by decide) ?_
  obtain ⟨z41, hk, h⟩ := bd h
  obtain ⟨S43, h0, h⟩ := bd h
  refine r_invV (As := [.int t40, .int ((2 : Int32))]) (st := []) dX0_putVariant_11 lv0_31 (by unfold RM; decide) (Nat.le_of_ble_eq_true rfl) rfl rfl (pk_ok hk) (T_X0_putNumber hl h0) ?_
  refine r_aload_n dX0_putVariant_14 rfl 0 rfl ?_
  refine r_aload_n dX0_putVariant_15 rfl 1 rfl ?_
  obtain ⟨t44, h0, h⟩ := bd h
  refine q_getI h0 dX0_putVariant_16 fl0_35 rfl ?_
  refine r_iconst (v := (2 : Int32)) dX0_putVariant_19 (by decide) ?_
  obtain ⟨z45, hk, h⟩ := bd h
  obtain ⟨S47, h0, h⟩ := bd h
  refine r_invV (As := [.int t44, .int ((2 : Int32))]) (st := []) dX0_putVariant_20 lv0_31 (by unfold RM; decide) (Nat.le_of_ble_eq_true rfl) rfl rfl (pk_ok hk) (T_X0_putNumber hl h0) ?_
  refine r_aload_n dX0_putVariant_23 rfl 0 rfl ?_
  refine r_aload_n dX0_putVariant_24 rfl 1 rfl ?_
  obtain ⟨t48, h0, h⟩ := bd h
  refine q_getI h0 dX0_putVariant_25 fl0_38 rfl ?_
  obtain ⟨z49, hk, h⟩ := bd h
  obtain ⟨S51, h0, h⟩ := bd h
  refine r_invV (As := [.int t48]) (st := []) dX0_putVariant_28 lv0_22 (by unfold RM; decide) (Nat.le_of_ble_eq_true rfl) rfl rfl (pk_ok hk) (T_X0_put hl h0) ?_
  refine r_iconst (v := (0 : Int32)) dX0_putVariant_31 (by decide) ?_
  refine r_istore_n (lv' := [(2, .int ((0 : Int32))), (0, .ref v0), (1, .ref v1)]) dX0_putVariant_32 rfl (by decide) rfl ?_
  refine r_sub [1, 2, 0] rfl ?_
  exact T_X0_putVariant_L33 hl FU v0 v1 (0 : Int32) S51 h

def F_X5_written (v0 : Nat) (v1 : Int32) (v2 : Int32) (S : Mem) : Option ((Int32 ⊕ String) × Mem) :=
    (pk 5 S v0).bind fun _ =>
    bdx (F_X5_requireRecord v0 v1 S) fun _ S3 =>
    (pgR 5 7 S3 v0).bind fun t5 =>
    (pgR 5 1 S3 v0).bind fun t6 =>
    (pgR 2 0 S3 t6).bind fun t7 =>
    (paR S3 t7 v1).bind fun t8 =>
    (pk 0 S3 t5).bind fun _ =>
    (F_X0_putVariant t5 t8 S3).bind fun S11 =>
    if v2 < (-1 : Int32) then
      some (.inr "java/lang/IndexOutOfBoundsException", S11)
    else
      (pgR 5 7 S11 v0).bind fun t13 =>
      (pgI 0 1 S11 t13).bind fun t14 =>
      if v2 < t14 then
        if v2 = (-1 : Int32) then
          (pgR 5 7 S11 v0).bind fun t20 =>
          (pgI 0 1 S11 t20).bind fun t21 =>
          some (.inl t21, S11)
        else
          (pgR 5 7 S11 v0).bind fun t17 =>
          (pgR 0 0 S11 t17).bind fun t18 =>
          (paI S11 t18 v2).bind fun t19 =>
          some (.inl t19, S11)
      else
        some (.inr "java/lang/IndexOutOfBoundsException", S11)
set_option maxRecDepth 100000 in
theorem T_X5_written {g : GG} {l : Launch} (hl : l.stackTraces = false) {v0 : Nat} {v1 : Int32} {v2 : Int32} {S S' : Mem} {r : Int32 ⊕ String} (h : F_X5_written v0 v1 v2 S = some (r, S')) : Call g l uX5_written [.ref v0, .int v1, .int v2] S (cxI r) S' := by
  refine call_of (by decide +kernel) hl rfl (Nat.le_of_ble_eq_true rfl) ?_
  show Run g l uX5_written _ 0 [(0, .ref v0), (1, .int v1), (2, .int v2)] [] 0 0 S
  unfold F_X5_written at h
  refine r_aload_n dX5_written_0 rfl 0 rfl ?_
  refine r_iload_n dX5_written_1 rfl 1 rfl ?_
  obtain ⟨z1, hk, h⟩ := bd h
  rcases bdx_s h with ⟨t2, S3, h0, h⟩ | ⟨e4, h0, rfl⟩
  · refine r_invV (As := [.int v1]) (st := []) dX5_written_2 lv5_177 (by unfold RM; decide) (Nat.le_of_ble_eq_true rfl) rfl rfl (pk_ok hk) (T_X5_requireRecord hl h0) ?_
    refine r_aload_n dX5_written_5 rfl 0 rfl ?_
    obtain ⟨t5, h0, h⟩ := bd h
    refine q_getR h0 dX5_written_6 fl5_51 rfl ?_
    refine r_aload_n dX5_written_9 rfl 0 rfl ?_
    obtain ⟨t6, h0, h⟩ := bd h
    refine q_getR h0 dX5_written_10 fl5_19 rfl ?_
    obtain ⟨t7, h0, h⟩ := bd h
    refine q_getR h0 dX5_written_13 fl5_184 rfl ?_
    refine r_iload_n dX5_written_16 rfl 1 rfl ?_
    obtain ⟨t8, h0, h⟩ := bd h
    refine q_aaload h0 dX5_written_17 ?_
    obtain ⟨z9, hk, h⟩ := bd h
    obtain ⟨S11, h0, h⟩ := bd h
    refine r_invV (As := [.ref t8]) (st := []) dX5_written_18 lv5_222 (by unfold RM; decide) (Nat.le_of_ble_eq_true rfl) rfl rfl (pk_ok hk) (T_X0_putVariant hl h0) ?_
    refine r_iload_n dX5_written_21 rfl 2 rfl ?_
    refine r_iconst (v := (-1 : Int32)) dX5_written_22 (by decide) ?_
    refine r_icmp_lt (tgt := 37) dX5_written_23 (by decide) (fun c12 => ?_) (fun c12 => ?_)
    · rw [if_pos c12] at h
      cases h
      exact r_throwS (text := "no such byte") tw_228_232 rfl (by decide) dX5_written_37 dX5_written_40 dX5_written_41 dX5_written_43 dX5_written_46 rfl rfl (by decide) (Nat.le_of_ble_eq_true rfl) (by decide) (by decide)
    · rw [if_neg c12] at h
      refine r_iload_n dX5_written_26 rfl 2 rfl ?_
      refine r_aload_n dX5_written_27 rfl 0 rfl ?_
      obtain ⟨t13, h0, h⟩ := bd h
      refine q_getR h0 dX5_written_28 fl5_51 rfl ?_
      obtain ⟨t14, h0, h⟩ := bd h
      refine q_getI h0 dX5_written_31 fl5_225 rfl ?_
      refine r_icmp_lt (tgt := 47) dX5_written_34 (by decide) (fun c15 => ?_) (fun c15 => ?_)
      · rw [if_pos c15] at h
        refine r_iload_n dX5_written_47 rfl 2 rfl ?_
        refine r_iconst (v := (-1 : Int32)) dX5_written_48 (by decide) ?_
        refine r_icmp_ne (tgt := 62) dX5_written_49 (by decide) (fun c16 => ?_) (fun c16 => ?_)
        · rw [if_neg c16] at h
          refine r_aload_n dX5_written_62 rfl 0 rfl ?_
          obtain ⟨t17, h0, h⟩ := bd h
          refine q_getR h0 dX5_written_63 fl5_51 rfl ?_
          obtain ⟨t18, h0, h⟩ := bd h
          refine q_getR h0 dX5_written_66 fl5_233 rfl ?_
          refine r_iload_n dX5_written_69 rfl 2 rfl ?_
          obtain ⟨t19, h0, h⟩ := bd h
          refine q_iaload h0 dX5_written_70 ?_
          cases h
          exact r_ireturn dX5_written_71 rfl rfl (by decide) (by decide)
        · rw [if_pos c16] at h
          refine r_aload_n dX5_written_52 rfl 0 rfl ?_
          obtain ⟨t20, h0, h⟩ := bd h
          refine q_getR h0 dX5_written_53 fl5_51 rfl ?_
          obtain ⟨t21, h0, h⟩ := bd h
          refine q_getI h0 dX5_written_56 fl5_225 rfl ?_
          refine r_goto (tgt := 71) dX5_written_59 (by decide) ?_
          cases h
          exact r_ireturn dX5_written_71 rfl rfl (by decide) (by decide)
      · rw [if_neg c15] at h
        cases h
        exact r_throwS (text := "no such byte") tw_228_232 rfl (by decide) dX5_written_37 dX5_written_40 dX5_written_41 dX5_written_43 dX5_written_46 rfl rfl (by decide) (Nat.le_of_ble_eq_true rfl) (by decide) (by decide)
  · exact r_invV_x (As := [.int v1]) (st := []) dX5_written_2 lv5_177 (by unfold RM; decide) (Nat.le_of_ble_eq_true rfl) rfl rfl (pk_ok hk) rfl rfl (T_X5_requireRecord hl h0)

def F_X5_type_L50 : Nat → Nat → Int64 → Int32 → Mem → Option ((Unit ⊕ String) × Mem)
  | 0, _, _, _, _ => none
  | fu + 1, v0, v1, v4, S =>
    if v4 < 0 then
      some (.inl (), S)
    else
      (pgR 5 6 S v0).bind fun t2 =>
      (pk 0 S t2).bind fun _ =>
      (F_X0_put t2 ((((v1.toUInt64 >>> (((8 : Int32) * v4).toInt64.toUInt64 &&& Int64.toUInt64 63)).toInt64).toInt32) &&& (255 : Int32)) S).bind fun S5 =>
      F_X5_type_L50 fu v0 v1 (v4 + (-1)) S5
set_option maxRecDepth 100000 in
theorem T_X5_type_L50 {g : GG} {l : Launch} (hl : l.stackTraces = false) {S' : Mem} {r : Unit ⊕ String}  : ∀ (fu : Nat) (v0 : Nat) (v1 : Int64) (v4 : Int32) (S : Mem), F_X5_type_L50 fu v0 v1 v4 S = some (r, S') → Run g l uX5_type (fin g uX5_type (cxV r) S') 50 [(0, .ref v0), (1, .long v1), (4, .int v4)] [] 0 0 S := by
  intro fu
  induction fu with
  | zero =>
    intro v0 v1 v4 S h
    cases (show none = some _ from h)
  | succ fu ih =>
    intro v0 v1 v4 S h
    unfold F_X5_type_L50 at h
    refine r_iload dX5_type_50 2 rfl ?_
    refine r_if_lt (tgt := 80) dX5_type_52 (by decide) (fun c1 => ?_) (fun c1 => ?_)
    · rw [if_pos c1] at h
      cases h
      exact r_return dX5_type_80 rfl (by decide) (by decide)
    · rw [if_neg c1] at h
      refine r_aload_n dX5_type_55 rfl 0 rfl ?_
      obtain ⟨t2, h0, h⟩ := bd h
      refine q_getR h0 dX5_type_56 fl5_47 rfl ?_
      refine r_lload_n dX5_type_59 rfl 1 rfl ?_
      refine r_bipush (v := (8 : Int32)) dX5_type_60 (by decide) ?_
      refine r_iload dX5_type_62 2 rfl ?_
      refine r_imul dX5_type_64 ?_
      refine r_lushr dX5_type_65 ?_
      refine r_l2i dX5_type_66 ?_
      refine r_sipush (v := (255 : Int32)) dX5_type_67 (by decide) ?_
      refine r_iand dX5_type_70 ?_
      obtain ⟨z3, hk, h⟩ := bd h
      obtain ⟨S5, h0, h⟩ := bd h
      refine r_invV (As := [.int ((((v1.toUInt64 >>> (((8 : Int32) * v4).toInt64.toUInt64 &&& Int64.toUInt64 63)).toInt64).toInt32) &&& (255 : Int32))]) (st := []) dX5_type_71 lv5_238 (by unfold RM; decide) (Nat.le_of_ble_eq_true rfl) rfl rfl (pk_ok hk) (T_X0_put hl h0) ?_
      refine r_iinc (v := v4 + (-1)) (lv' := [(4, .int (v4 + (-1))), (0, .ref v0), (1, .long v1)]) dX5_type_74 2 rfl rfl (by decide) rfl ?_
      refine r_goto (tgt := 50) dX5_type_77 (by decide) ?_
      refine r_sub [1, 2, 0] rfl ?_
      exact ih v0 v1 (v4 + (-1)) S5 h

def F_X5_type (v0 : Nat) (v1 : Int64) (v3 : Int32) (S : Mem) : Option ((Unit ⊕ String) × Mem) :=
    if v3 < (1 : Int32) then
      some (.inr "java/lang/IllegalArgumentException", S)
    else
      if v3 ≤ (8 : Int32) then
        (pgR 5 6 S v0).bind fun t8 =>
        (pgI 0 1 S t8).bind fun t9 =>
        if (t9 + v3) ≤ (120 : Int32) then
          F_X5_type_L50 FU v0 v1 (v3 - (1 : Int32)) S
        else
          some (.inr "java/lang/IllegalStateException", S)
      else
        some (.inr "java/lang/IllegalArgumentException", S)
set_option maxRecDepth 100000 in
theorem T_X5_type {g : GG} {l : Launch} (hl : l.stackTraces = false) {v0 : Nat} {v1 : Int64} {v3 : Int32} {S S' : Mem} {r : Unit ⊕ String} (h : F_X5_type v0 v1 v3 S = some (r, S')) : Call g l uX5_type [.ref v0, .long v1, .int v3] S (cxV r) S' := by
  refine call_of (by decide +kernel) hl rfl (Nat.le_of_ble_eq_true rfl) ?_
  show Run g l uX5_type _ 0 [(0, .ref v0), (1, .long v1), (3, .int v3)] [] 0 0 S
  unfold F_X5_type at h
  refine r_iload_n dX5_type_0 rfl 2 rfl ?_
  refine r_iconst (v := (1 : Int32)) dX5_type_1 (by decide) ?_
  refine r_icmp_lt (tgt := 11) dX5_type_2 (by decide) (fun c6 => ?_) (fun c6 => ?_)
  · rw [if_pos c6] at h
    cases h
    exact r_throwS (text := "n is not 1 .. 8") tw_54_58 rfl (by decide) dX5_type_11 dX5_type_14 dX5_type_15 dX5_type_17 dX5_type_20 rfl rfl (by decide) (Nat.le_of_ble_eq_true rfl) (by decide) (by decide)
  · rw [if_neg c6] at h
    refine r_iload_n dX5_type_5 rfl 2 rfl ?_
    refine r_bipush (v := (8 : Int32)) dX5_type_6 (by decide) ?_
    refine r_icmp_le (tgt := 21) dX5_type_8 (by decide) (fun c7 => ?_) (fun c7 => ?_)
    · rw [if_pos c7] at h
      refine r_aload_n dX5_type_21 rfl 0 rfl ?_
      obtain ⟨t8, h0, h⟩ := bd h
      refine q_getR h0 dX5_type_22 fl5_47 rfl ?_
      obtain ⟨t9, h0, h⟩ := bd h
      refine q_getI h0 dX5_type_25 fl5_225 rfl ?_
      refine r_iload_n dX5_type_28 rfl 2 rfl ?_
      refine r_iadd dX5_type_29 ?_
      refine r_bipush (v := (120 : Int32)) dX5_type_30 (by decide) ?_
      refine r_icmp_le (tgt := 45) dX5_type_32 (by decide) (fun c10 => ?_) (fun c10 => ?_)
      · rw [if_pos c10] at h
        refine r_iload_n dX5_type_45 rfl 2 rfl ?_
        refine r_iconst (v := (1 : Int32)) dX5_type_46 (by decide) ?_
        refine r_isub dX5_type_47 ?_
        refine r_istore (lv' := [(4, .int (v3 - (1 : Int32))), (0, .ref v0), (1, .long v1), (3, .int v3)]) dX5_type_48 (by decide) rfl ?_
        refine r_sub [1, 2, 0] rfl ?_
        exact T_X5_type_L50 hl FU v0 v1 (v3 - (1 : Int32)) S h
      · rw [if_neg c10] at h
        cases h
        exact r_throwS (text := "there would be more than 120 bytes") tw_65_69 rfl (by decide) dX5_type_35 dX5_type_38 dX5_type_39 dX5_type_41 dX5_type_44 rfl rfl (by decide) (Nat.le_of_ble_eq_true rfl) (by decide) (by decide)
    · rw [if_neg c7] at h
      cases h
      exact r_throwS (text := "n is not 1 .. 8") tw_54_58 rfl (by decide) dX5_type_11 dX5_type_14 dX5_type_15 dX5_type_17 dX5_type_20 rfl rfl (by decide) (Nat.le_of_ble_eq_true rfl) (by decide) (by decide)

def F_X0_take (v0 : Nat) (S : Mem) : Option (Int32 × Mem) :=
    (pgI 0 2 S v0).bind fun t1 =>
    (pgI 0 1 S v0).bind fun t2 =>
    if t1 < t2 then
      (pgI 0 2 S v0).bind fun t4 =>
      (ppI 0 2 S v0 (t4 + (1 : Int32))).bind fun S5 =>
      (pgR 0 0 S5 v0).bind fun t6 =>
      (pgI 0 2 S5 v0).bind fun t7 =>
      (paI S5 t6 (t7 - (1 : Int32))).bind fun t8 =>
      some (t8, S5)
    else
      some ((0 : Int32), S)
set_option maxRecDepth 100000 in
theorem T_X0_take {g : GG} {l : Launch} (hl : l.stackTraces = false) {v0 : Nat} {S S' : Mem} {r : Int32} (h : F_X0_take v0 S = some (r, S')) : Call g l uX0_take [.ref v0] S (cvI r) S' := by
  refine call_of (by decide +kernel) hl rfl (Nat.le_of_ble_eq_true rfl) ?_
  show Run g l uX0_take _ 0 [(0, .ref v0)] [] 0 0 S
  unfold F_X0_take at h
  refine r_aload_n dX0_take_0 rfl 0 rfl ?_
  obtain ⟨t1, h0, h⟩ := bd h
  refine q_getI h0 dX0_take_1 fl0_19 rfl ?_
  refine r_aload_n dX0_take_4 rfl 0 rfl ?_
  obtain ⟨t2, h0, h⟩ := bd h
  refine q_getI h0 dX0_take_5 fl0_15 rfl ?_
  refine r_icmp_lt (tgt := 13) dX0_take_8 (by decide) (fun c3 => ?_) (fun c3 => ?_)
  · rw [if_pos c3] at h
    refine r_aload_n dX0_take_13 rfl 0 rfl ?_
    refine r_dup dX0_take_14 rfl ?_
    obtain ⟨t4, h0, h⟩ := bd h
    refine q_getI h0 dX0_take_15 fl0_19 rfl ?_
    refine r_iconst (v := (1 : Int32)) dX0_take_18 (by decide) ?_
    refine r_iadd dX0_take_19 ?_
    obtain ⟨S5, h0, h⟩ := bd h
    refine q_putI h0 dX0_take_20 fl0_19 rfl ?_
    refine r_aload_n dX0_take_23 rfl 0 rfl ?_
    obtain ⟨t6, h0, h⟩ := bd h
    refine q_getR h0 dX0_take_24 fl0_9 rfl ?_
    refine r_aload_n dX0_take_27 rfl 0 rfl ?_
    obtain ⟨t7, h0, h⟩ := bd h
    refine q_getI h0 dX0_take_28 fl0_19 rfl ?_
    refine r_iconst (v := (1 : Int32)) dX0_take_31 (by decide) ?_
    refine r_isub dX0_take_32 ?_
    obtain ⟨t8, h0, h⟩ := bd h
    refine q_iaload h0 dX0_take_33 ?_
    cases h
    exact r_ireturn dX0_take_34 rfl rfl (by decide) (by decide)
  · rw [if_neg c3] at h
    refine r_iconst (v := (0 : Int32)) dX0_take_11 (by decide) ?_
    cases h
    exact r_ireturn dX0_take_12 rfl rfl (by decide) (by decide)

def F_X0_takeNumber (v0 : Nat) (v1 : Int32) (S : Mem) : Option (Int32 × Mem) :=
    (pk 0 S v0).bind fun _ =>
    bd2 (F_X0_take v0 S) fun t2 S3 =>
    if v1 = (2 : Int32) then
      (pk 0 S3 v0).bind fun _ =>
      bd2 (F_X0_take v0 S3) fun t6 S7 =>
      some (t2 + ((256 : Int32) * t6), S7)
    else
      some (t2, S3)
set_option maxRecDepth 100000 in
theorem T_X0_takeNumber {g : GG} {l : Launch} (hl : l.stackTraces = false) {v0 : Nat} {v1 : Int32} {S S' : Mem} {r : Int32} (h : F_X0_takeNumber v0 v1 S = some (r, S')) : Call g l uX0_takeNumber [.ref v0, .int v1] S (cvI r) S' := by
  refine call_of (by decide +kernel) hl rfl (Nat.le_of_ble_eq_true rfl) ?_
  show Run g l uX0_takeNumber _ 0 [(0, .ref v0), (1, .int v1)] [] 0 0 S
  unfold F_X0_takeNumber at h
  refine r_aload_n dX0_takeNumber_0 rfl 0 rfl ?_
  obtain ⟨z1, hk, h⟩ := bd h
  obtain ⟨t2, S3, h0, h⟩ := bd2_s h
  refine r_invV (As := []) (st := []) dX0_takeNumber_1 lv0_78 (by unfold RM; decide) (Nat.le_of_ble_eq_true rfl) rfl rfl (pk_ok hk) (T_X0_take hl h0) ?_
  refine r_istore_n (lv' := [(2, .int t2), (0, .ref v0), (1, .int v1)]) dX0_takeNumber_4 rfl (by decide) rfl ?_
  refine r_iload_n dX0_takeNumber_5 rfl 2 rfl ?_
  refine r_iconst (v := (2 : Int32)) dX0_takeNumber_6 (by decide) ?_
  refine r_icmp_ne (tgt := 23) dX0_takeNumber_7 (by decide) (fun c4 => ?_) (fun c4 => ?_)
  · rw [if_neg c4] at h
    refine r_iload_n dX0_takeNumber_23 rfl 0 rfl ?_
    cases h
    exact r_ireturn dX0_takeNumber_24 rfl rfl (by decide) (by decide)
  · rw [if_pos c4] at h
    refine r_iload_n dX0_takeNumber_10 rfl 0 rfl ?_
    refine r_sipush (v := (256 : Int32)) dX0_takeNumber_11 (by decide) ?_
    refine r_aload_n dX0_takeNumber_14 rfl 1 rfl ?_
    obtain ⟨z5, hk, h⟩ := bd h
    obtain ⟨t6, S7, h0, h⟩ := bd2_s h
    refine r_invV (As := []) (st := [.int ((256 : Int32)), .int t2]) dX0_takeNumber_15 lv0_78 (by unfold RM; decide) (Nat.le_of_ble_eq_true rfl) rfl rfl (pk_ok hk) (T_X0_take hl h0) ?_
    refine r_imul dX0_takeNumber_18 ?_
    refine r_iadd dX0_takeNumber_19 ?_
    refine r_goto (tgt := 24) dX0_takeNumber_20 (by decide) ?_
    cases h
    exact r_ireturn dX0_takeNumber_24 rfl rfl (by decide) (by decide)

def F_X0_takeBases_J45 (K4 : Nat → Int32 → Int32 → Int32 → Mem → Option (Int32 × Mem)) (K21 : Nat → Int32 → Int32 → Int32 → Int32 → Int32 → Int32 → Mem → Option (Int32 × Mem)) (v0 : Nat) (v1 : Int32) (v2 : Int32) (v3 : Int32) (v4 : Int32) (v5 : Int32) (v6 : Int32) (S : Mem) : Option (Int32 × Mem) :=
    K21 v0 v1 v2 v3 v4 v5 (v6 + 1) S
set_option maxRecDepth 100000 in
theorem T_X0_takeBases_J45 {g : GG} {l : Launch} (hl : l.stackTraces = false) {S' : Mem} {r : Int32}  {K4 : Nat → Int32 → Int32 → Int32 → Mem → Option (Int32 × Mem)} {K21 : Nat → Int32 → Int32 → Int32 → Int32 → Int32 → Int32 → Mem → Option (Int32 × Mem)} (hK4 : ∀ (v0 : Nat) (v1 : Int32) (v2 : Int32) (v3 : Int32) (S : Mem), K4 v0 v1 v2 v3 S = some (r, S') → Run g l uX0_takeBases (fin g uX0_takeBases (cvI r) S') 4 [(0, .ref v0), (1, .int v1), (2, .int v2), (3, .int v3)] [] 0 0 S) (hK21 : ∀ (v0 : Nat) (v1 : Int32) (v2 : Int32) (v3 : Int32) (v4 : Int32) (v5 : Int32) (v6 : Int32) (S : Mem), K21 v0 v1 v2 v3 v4 v5 v6 S = some (r, S') → Run g l uX0_takeBases (fin g uX0_takeBases (cvI r) S') 21 [(0, .ref v0), (1, .int v1), (2, .int v2), (3, .int v3), (4, .int v4), (5, .int v5), (6, .int v6)] [] 0 0 S) : ∀ (v0 : Nat) (v1 : Int32) (v2 : Int32) (v3 : Int32) (v4 : Int32) (v5 : Int32) (v6 : Int32) (S : Mem), F_X0_takeBases_J45 K4 K21 v0 v1 v2 v3 v4 v5 v6 S = some (r, S') → Run g l uX0_takeBases (fin g uX0_takeBases (cvI r) S') 45 [(0, .ref v0), (1, .int v1), (2, .int v2), (3, .int v3), (4, .int v4), (5, .int v5), (6, .int v6)] [] 0 0 S := by
  intro v0 v1 v2 v3 v4 v5 v6 S h
  unfold F_X0_takeBases_J45 at h
  refine r_iinc (v := v6 + 1) (lv' := [(6, .int (v6 + 1)), (0, .ref v0), (1, .int v1), (2, .int v2), (3, .int v3), (4, .int v4), (5, .int v5)]) dX0_takeBases_45 6 rfl rfl (by decide) rfl ?_
  refine r_goto (tgt := 21) dX0_takeBases_48 (by decide) ?_
  refine r_sub [1, 2, 3, 4, 5, 6, 0] rfl ?_
  exact hK21 v0 v1 v2 v3 v4 v5 (v6 + 1) S h

def F_X0_takeBases_L21 (K4 : Nat → Int32 → Int32 → Int32 → Mem → Option (Int32 × Mem)) : Nat → Nat → Int32 → Int32 → Int32 → Int32 → Int32 → Int32 → Mem → Option (Int32 × Mem)
  | 0, _, _, _, _, _, _, _, _ => none
  | fu + 1, v0, v1, v2, v3, v4, v5, v6, S =>
    if (4 : Int32) ≤ v6 then
      K4 v0 v1 ((v2 <<< ((2 : Int32) &&& 31)) ||| v5) (v3 + 1) S
    else
      (ptL v6).bind fun t2 =>
      if t2 = v4 then
        F_X0_takeBases_J45 K4 (F_X0_takeBases_L21 K4 fu) v0 v1 v2 v3 v4 v6 v6 S
      else
        F_X0_takeBases_J45 K4 (F_X0_takeBases_L21 K4 fu) v0 v1 v2 v3 v4 v5 v6 S
set_option maxRecDepth 100000 in
theorem T_X0_takeBases_L21 {g : GG} {l : Launch} (hl : l.stackTraces = false) {S' : Mem} {r : Int32}  {K4 : Nat → Int32 → Int32 → Int32 → Mem → Option (Int32 × Mem)} (hK4 : ∀ (v0 : Nat) (v1 : Int32) (v2 : Int32) (v3 : Int32) (S : Mem), K4 v0 v1 v2 v3 S = some (r, S') → Run g l uX0_takeBases (fin g uX0_takeBases (cvI r) S') 4 [(0, .ref v0), (1, .int v1), (2, .int v2), (3, .int v3)] [] 0 0 S) : ∀ (fu : Nat) (v0 : Nat) (v1 : Int32) (v2 : Int32) (v3 : Int32) (v4 : Int32) (v5 : Int32) (v6 : Int32) (S : Mem), F_X0_takeBases_L21 K4 fu v0 v1 v2 v3 v4 v5 v6 S = some (r, S') → Run g l uX0_takeBases (fin g uX0_takeBases (cvI r) S') 21 [(0, .ref v0), (1, .int v1), (2, .int v2), (3, .int v3), (4, .int v4), (5, .int v5), (6, .int v6)] [] 0 0 S := by
  intro fu
  induction fu with
  | zero =>
    intro v0 v1 v2 v3 v4 v5 v6 S h
    cases (show none = some _ from h)
  | succ fu ih =>
    intro v0 v1 v2 v3 v4 v5 v6 S h
    unfold F_X0_takeBases_L21 at h
    refine r_iload dX0_takeBases_21 6 rfl ?_
    refine r_letters dX0_takeBases_23 wg0_71 ?_
    refine r_lettersL dX0_takeBases_26 ?_
    refine r_icmp_ge (tgt := 51) dX0_takeBases_27 (by decide) (fun c1 => ?_) (fun c1 => ?_)
    · rw [if_pos c1] at h
      refine r_iload_n dX0_takeBases_51 rfl 2 rfl ?_
      refine r_iconst (v := (2 : Int32)) dX0_takeBases_52 (by decide) ?_
      refine r_ishl dX0_takeBases_53 ?_
      refine r_iload dX0_takeBases_54 5 rfl ?_
      refine r_ior dX0_takeBases_56 ?_
      refine r_istore_n (lv' := [(2, .int ((v2 <<< ((2 : Int32) &&& 31)) ||| v5)), (0, .ref v0), (1, .int v1), (3, .int v3), (4, .int v4), (5, .int v5), (6, .int v6)]) dX0_takeBases_57 rfl (by decide) rfl ?_
      refine r_iinc (v := v3 + 1) (lv' := [(3, .int (v3 + 1)), (2, .int ((v2 <<< ((2 : Int32) &&& 31)) ||| v5)), (0, .ref v0), (1, .int v1), (4, .int v4), (5, .int v5), (6, .int v6)]) dX0_takeBases_58 3 rfl rfl (by decide) rfl ?_
      refine r_goto (tgt := 4) dX0_takeBases_61 (by decide) ?_
      refine r_sub [2, 3, 1, 0] rfl ?_
      exact hK4 v0 v1 ((v2 <<< ((2 : Int32) &&& 31)) ||| v5) (v3 + 1) S h
    · rw [if_neg c1] at h
      refine r_letters dX0_takeBases_30 wg0_71 ?_
      refine r_iload dX0_takeBases_33 6 rfl ?_
      obtain ⟨t2, h0, h⟩ := bd h
      refine q_letters h0 dX0_takeBases_35 ?_
      refine r_iload dX0_takeBases_36 4 rfl ?_
      refine r_icmp_ne (tgt := 45) dX0_takeBases_38 (by decide) (fun c3 => ?_) (fun c3 => ?_)
      · rw [if_neg c3] at h
        exact T_X0_takeBases_J45 hl hK4 (fun v0 v1 v2 v3 v4 v5 v6 S h => ih v0 v1 v2 v3 v4 v5 v6 S h) v0 v1 v2 v3 v4 v5 v6 S h
      · rw [if_pos c3] at h
        refine r_iload dX0_takeBases_41 6 rfl ?_
        refine r_istore (lv' := [(5, .int v6), (0, .ref v0), (1, .int v1), (2, .int v2), (3, .int v3), (4, .int v4), (6, .int v6)]) dX0_takeBases_43 (by decide) rfl ?_
        refine r_sub [1, 2, 3, 4, 5, 0, 6] rfl ?_
        exact T_X0_takeBases_J45 hl hK4 (fun v0 v1 v2 v3 v4 v5 v6 S h => ih v0 v1 v2 v3 v4 v5 v6 S h) v0 v1 v2 v3 v4 v6 v6 S h

def F_X0_takeBases_L4 : Nat → Nat → Int32 → Int32 → Int32 → Mem → Option (Int32 × Mem)
  | 0, _, _, _, _, _ => none
  | fu + 1, v0, v1, v2, v3, S =>
    if v1 ≤ v3 then
      some (v2, S)
    else
      (pk 0 S v0).bind fun _ =>
      bd2 (F_X0_take v0 S) fun t6 S7 =>
      F_X0_takeBases_L21 (F_X0_takeBases_L4 fu) FU v0 v1 v2 v3 t6 (0 : Int32) (1 : Int32) S7
set_option maxRecDepth 100000 in
theorem T_X0_takeBases_L4 {g : GG} {l : Launch} (hl : l.stackTraces = false) {S' : Mem} {r : Int32}  : ∀ (fu : Nat) (v0 : Nat) (v1 : Int32) (v2 : Int32) (v3 : Int32) (S : Mem), F_X0_takeBases_L4 fu v0 v1 v2 v3 S = some (r, S') → Run g l uX0_takeBases (fin g uX0_takeBases (cvI r) S') 4 [(0, .ref v0), (1, .int v1), (2, .int v2), (3, .int v3)] [] 0 0 S := by
  intro fu
  induction fu with
  | zero =>
    intro v0 v1 v2 v3 S h
    cases (show none = some _ from h)
  | succ fu ih =>
    intro v0 v1 v2 v3 S h
    unfold F_X0_takeBases_L4 at h
    refine r_iload_n dX0_takeBases_4 rfl 3 rfl ?_
    refine r_iload_n dX0_takeBases_5 rfl 1 rfl ?_
    refine r_icmp_ge (tgt := 64) dX0_takeBases_6 (by decide) (fun c4 => ?_) (fun c4 => ?_)
    · rw [if_pos c4] at h
      refine r_iload_n dX0_takeBases_64 rfl 2 rfl ?_
      cases h
      exact r_ireturn dX0_takeBases_65 rfl rfl (by decide) (by decide)
    · rw [if_neg c4] at h
      refine r_aload_n dX0_takeBases_9 rfl 0 rfl ?_
      obtain ⟨z5, hk, h⟩ := bd h
      obtain ⟨t6, S7, h0, h⟩ := bd2_s h
      refine r_invV (As := []) (st := []) dX0_takeBases_10 lv0_78 (by unfold RM; decide) (Nat.le_of_ble_eq_true rfl) rfl rfl (pk_ok hk) (T_X0_take hl h0) ?_
      refine r_istore (lv' := [(4, .int t6), (0, .ref v0), (1, .int v1), (2, .int v2), (3, .int v3)]) dX0_takeBases_13 (by decide) rfl ?_
      refine r_iconst (v := (0 : Int32)) dX0_takeBases_15 (by decide) ?_
      refine r_istore (lv' := [(5, .int ((0 : Int32))), (4, .int t6), (0, .ref v0), (1, .int v1), (2, .int v2), (3, .int v3)]) dX0_takeBases_16 (by decide) rfl ?_
      refine r_iconst (v := (1 : Int32)) dX0_takeBases_18 (by decide) ?_
      refine r_istore (lv' := [(6, .int ((1 : Int32))), (5, .int ((0 : Int32))), (4, .int t6), (0, .ref v0), (1, .int v1), (2, .int v2), (3, .int v3)]) dX0_takeBases_19 (by decide) rfl ?_
      refine r_sub [3, 4, 5, 6, 2, 1, 0] rfl ?_
      exact T_X0_takeBases_L21 hl (fun v0 v1 v2 v3 S h => ih v0 v1 v2 v3 S h) FU v0 v1 v2 v3 t6 (0 : Int32) (1 : Int32) S7 h

def F_X0_takeBases (v0 : Nat) (v1 : Int32) (S : Mem) : Option (Int32 × Mem) :=
    F_X0_takeBases_L4 FU v0 v1 (0 : Int32) (0 : Int32) S
set_option maxRecDepth 100000 in
theorem T_X0_takeBases {g : GG} {l : Launch} (hl : l.stackTraces = false) {v0 : Nat} {v1 : Int32} {S S' : Mem} {r : Int32} (h : F_X0_takeBases v0 v1 S = some (r, S')) : Call g l uX0_takeBases [.ref v0, .int v1] S (cvI r) S' := by
  refine call_of (by decide +kernel) hl rfl (Nat.le_of_ble_eq_true rfl) ?_
  show Run g l uX0_takeBases _ 0 [(0, .ref v0), (1, .int v1)] [] 0 0 S
  unfold F_X0_takeBases at h
  refine r_iconst (v := (0 : Int32)) dX0_takeBases_0 (by decide) ?_
  refine r_istore_n (lv' := [(2, .int ((0 : Int32))), (0, .ref v0), (1, .int v1)]) dX0_takeBases_1 rfl (by decide) rfl ?_
  refine r_iconst (v := (0 : Int32)) dX0_takeBases_2 (by decide) ?_
  refine r_istore_n (lv' := [(3, .int ((0 : Int32))), (2, .int ((0 : Int32))), (0, .ref v0), (1, .int v1)]) dX0_takeBases_3 rfl (by decide) rfl ?_
  refine r_sub [2, 3, 1, 0] rfl ?_
  exact T_X0_takeBases_L4 hl FU v0 v1 (0 : Int32) (0 : Int32) S h

def F_X0_takeAlleles_L20 : Nat → Nat → Nat → Nat → Int32 → Int32 → Mem → Option (Int32 × Mem)
  | 0, _, _, _, _, _, _ => none
  | fu + 1, v0, v1, v2, v3, v4, S =>
    if v3 ≤ v4 then
      (pgI 4 0 S v1).bind fun t2 =>
      (pgR 4 4 S v1).bind fun t3 =>
      (paI S t3 (0 : Int32)).bind fun t4 =>
      (pk 3 S v2).bind fun _ =>
      bd2 (F_X3_covers v2 t2 t4 S) fun t6 S7 =>
      if t6 = 0 then
        some ((0 : Int32), S7)
      else
        (pk 3 S7 v2).bind fun _ =>
        bd2 (F_X3_packed v2 t2 t4 S7) fun t10 S11 =>
        (pgR 4 3 S11 v1).bind fun t12 =>
        (paI S11 t12 (0 : Int32)).bind fun t13 =>
        if t10 = t13 then
          some ((1 : Int32), S11)
        else
          some ((0 : Int32), S11)
    else
      (pk 0 S v0).bind fun _ =>
      bd2 (F_X0_take v0 S) fun t16 S17 =>
      if (t16 >>> ((4 : Int32) &&& 31)) < (1 : Int32) then
        some ((0 : Int32), S17)
      else
        if (t16 >>> ((4 : Int32) &&& 31)) ≤ (8 : Int32) then
          (pk 0 S17 v0).bind fun _ =>
          bd2 (F_X0_takeBases v0 (t16 >>> ((4 : Int32) &&& 31)) S17) fun t21 S22 =>
          (pk 4 S22 v1).bind fun _ =>
          bd2 (F_X4_find v1 t21 (t16 >>> ((4 : Int32) &&& 31)) S22) fun t24 S25 =>
          if t24 < 0 then
            (pk 4 S25 v1).bind fun _ =>
            (F_X4_appendAllele v1 t21 (t16 >>> ((4 : Int32) &&& 31)) S25).bind fun S29 =>
            F_X0_takeAlleles_L20 fu v0 v1 v2 v3 (v4 + 1) S29
          else
            some ((0 : Int32), S25)
        else
          some ((0 : Int32), S17)
set_option maxRecDepth 100000 in
theorem T_X0_takeAlleles_L20 {g : GG} {l : Launch} (hl : l.stackTraces = false) {S' : Mem} {r : Int32}  : ∀ (fu : Nat) (v0 : Nat) (v1 : Nat) (v2 : Nat) (v3 : Int32) (v4 : Int32) (S : Mem), F_X0_takeAlleles_L20 fu v0 v1 v2 v3 v4 S = some (r, S') → Run g l uX0_takeAlleles (fin g uX0_takeAlleles (cvI r) S') 20 [(0, .ref v0), (1, .ref v1), (2, .ref v2), (3, .int v3), (4, .int v4)] [] 0 0 S := by
  intro fu
  induction fu with
  | zero =>
    intro v0 v1 v2 v3 v4 S h
    cases (show none = some _ from h)
  | succ fu ih =>
    intro v0 v1 v2 v3 v4 S h
    unfold F_X0_takeAlleles_L20 at h
    refine r_iload dX0_takeAlleles_20 4 rfl ?_
    refine r_iload_n dX0_takeAlleles_22 rfl 3 rfl ?_
    refine r_icmp_ge (tgt := 84) dX0_takeAlleles_23 (by decide) (fun c1 => ?_) (fun c1 => ?_)
    · rw [if_pos c1] at h
      refine r_aload_n dX0_takeAlleles_84 rfl 1 rfl ?_
      obtain ⟨t2, h0, h⟩ := bd h
      refine q_getI h0 dX0_takeAlleles_85 fl0_26 rfl ?_
      refine r_istore (lv' := [(4, .int t2), (0, .ref v0), (1, .ref v1), (2, .ref v2), (3, .int v3)]) dX0_takeAlleles_88 (by decide) rfl ?_
      refine r_aload_n dX0_takeAlleles_90 rfl 2 rfl ?_
      obtain ⟨t3, h0, h⟩ := bd h
      refine q_getR h0 dX0_takeAlleles_91 fl0_44 rfl ?_
      refine r_iconst (v := (0 : Int32)) dX0_takeAlleles_94 (by decide) ?_
      obtain ⟨t4, h0, h⟩ := bd h
      refine q_iaload h0 dX0_takeAlleles_95 ?_
      refine r_istore (lv' := [(5, .int t4), (4, .int t2), (0, .ref v0), (1, .ref v1), (2, .ref v2), (3, .int v3)]) dX0_takeAlleles_96 (by decide) rfl ?_
      refine r_aload_n dX0_takeAlleles_98 rfl 4 rfl ?_
      refine r_iload dX0_takeAlleles_99 1 rfl ?_
      refine r_iload dX0_takeAlleles_101 0 rfl ?_
      obtain ⟨z5, hk, h⟩ := bd h
      obtain ⟨t6, S7, h0, h⟩ := bd2_s h
      refine r_invV (As := [.int t2, .int t4]) (st := []) dX0_takeAlleles_103 lv0_110 (by unfold RM; decide) (Nat.le_of_ble_eq_true rfl) rfl rfl (pk_ok hk) (T_X3_covers hl h0) ?_
      refine r_if_eq (tgt := 130) dX0_takeAlleles_106 (by decide) (fun c8 => ?_) (fun c8 => ?_)
      · rw [if_pos c8] at h
        refine r_iconst (v := (0 : Int32)) dX0_takeAlleles_130 (by decide) ?_
        cases h
        exact r_ireturn dX0_takeAlleles_131 rfl (by decide) (by decide) (by decide)
      · rw [if_neg c8] at h
        refine r_aload_n dX0_takeAlleles_109 rfl 4 rfl ?_
        refine r_iload dX0_takeAlleles_110 1 rfl ?_
        refine r_iload dX0_takeAlleles_112 0 rfl ?_
        obtain ⟨z9, hk, h⟩ := bd h
        obtain ⟨t10, S11, h0, h⟩ := bd2_s h
        refine r_invV (As := [.int t2, .int t4]) (st := []) dX0_takeAlleles_114 lv0_116 (by unfold RM; decide) (Nat.le_of_ble_eq_true rfl) rfl rfl (pk_ok hk) (T_X3_packed hl h0) ?_
        refine r_aload_n dX0_takeAlleles_117 rfl 3 rfl ?_
        obtain ⟨t12, h0, h⟩ := bd h
        refine q_getR h0 dX0_takeAlleles_118 fl0_41 rfl ?_
        refine r_iconst (v := (0 : Int32)) dX0_takeAlleles_121 (by decide) ?_
        obtain ⟨t13, h0, h⟩ := bd h
        refine q_iaload h0 dX0_takeAlleles_122 ?_
        refine r_icmp_ne (tgt := 130) dX0_takeAlleles_123 (by decide) (fun c14 => ?_) (fun c14 => ?_)
        · rw [if_neg c14] at h
          refine r_iconst (v := (0 : Int32)) dX0_takeAlleles_130 (by decide) ?_
          cases h
          exact r_ireturn dX0_takeAlleles_131 rfl (by decide) (by decide) (by decide)
        · rw [if_pos c14] at h
          refine r_iconst (v := (1 : Int32)) dX0_takeAlleles_126 (by decide) ?_
          refine r_goto (tgt := 131) dX0_takeAlleles_127 (by decide) ?_
          cases h
          exact r_ireturn dX0_takeAlleles_131 rfl (by decide) (by decide) (by decide)
    · rw [if_neg c1] at h
      refine r_aload_n dX0_takeAlleles_26 rfl 0 rfl ?_
      obtain ⟨z15, hk, h⟩ := bd h
      obtain ⟨t16, S17, h0, h⟩ := bd2_s h
      refine r_invV (As := []) (st := []) dX0_takeAlleles_27 lv0_78 (by unfold RM; decide) (Nat.le_of_ble_eq_true rfl) rfl rfl (pk_ok hk) (T_X0_take hl h0) ?_
      refine r_iconst (v := (4 : Int32)) dX0_takeAlleles_30 (by decide) ?_
      refine r_ishr dX0_takeAlleles_31 ?_
      refine r_istore (lv' := [(5, .int (t16 >>> ((4 : Int32) &&& 31))), (0, .ref v0), (1, .ref v1), (2, .ref v2), (3, .int v3), (4, .int v4)]) dX0_takeAlleles_32 (by decide) rfl ?_
      refine r_iload dX0_takeAlleles_34 0 rfl ?_
      refine r_iconst (v := (1 : Int32)) dX0_takeAlleles_36 (by decide) ?_
      refine r_icmp_lt (tgt := 47) dX0_takeAlleles_37 (by decide) (fun c18 => ?_) (fun c18 => ?_)
      · rw [if_pos c18] at h
        refine r_iconst (v := (0 : Int32)) dX0_takeAlleles_47 (by decide) ?_
        cases h
        exact r_ireturn dX0_takeAlleles_48 rfl (by decide) (by decide) (by decide)
      · rw [if_neg c18] at h
        refine r_iload dX0_takeAlleles_40 0 rfl ?_
        refine r_bipush (v := (8 : Int32)) dX0_takeAlleles_42 (by decide) ?_
        refine r_icmp_le (tgt := 49) dX0_takeAlleles_44 (by decide) (fun c19 => ?_) (fun c19 => ?_)
        · rw [if_pos c19] at h
          refine r_aload_n dX0_takeAlleles_49 rfl 1 rfl ?_
          refine r_iload dX0_takeAlleles_50 0 rfl ?_
          obtain ⟨z20, hk, h⟩ := bd h
          obtain ⟨t21, S22, h0, h⟩ := bd2_s h
          refine r_invV (As := [.int (t16 >>> ((4 : Int32) &&& 31))]) (st := []) dX0_takeAlleles_52 lv0_100 (by unfold RM; decide) (Nat.le_of_ble_eq_true rfl) rfl rfl (pk_ok hk) (T_X0_takeBases hl h0) ?_
          refine r_istore (lv' := [(6, .int t21), (5, .int (t16 >>> ((4 : Int32) &&& 31))), (0, .ref v0), (1, .ref v1), (2, .ref v2), (3, .int v3), (4, .int v4)]) dX0_takeAlleles_55 (by decide) rfl ?_
          refine r_aload_n dX0_takeAlleles_57 rfl 3 rfl ?_
          refine r_iload dX0_takeAlleles_58 0 rfl ?_
          refine r_iload dX0_takeAlleles_60 1 rfl ?_
          obtain ⟨z23, hk, h⟩ := bd h
          obtain ⟨t24, S25, h0, h⟩ := bd2_s h
          refine r_invV (As := [.int t21, .int (t16 >>> ((4 : Int32) &&& 31))]) (st := []) dX0_takeAlleles_62 lv0_103 (by unfold RM; decide) (Nat.le_of_ble_eq_true rfl) rfl rfl (pk_ok hk) (T_X4_find hl h0) ?_
          refine r_if_lt (tgt := 70) dX0_takeAlleles_65 (by decide) (fun c26 => ?_) (fun c26 => ?_)
          · rw [if_pos c26] at h
            refine r_aload_n dX0_takeAlleles_70 rfl 3 rfl ?_
            refine r_iload dX0_takeAlleles_71 0 rfl ?_
            refine r_iload dX0_takeAlleles_73 1 rfl ?_
            obtain ⟨z27, hk, h⟩ := bd h
            obtain ⟨S29, h0, h⟩ := bd h
            refine r_invV (As := [.int t21, .int (t16 >>> ((4 : Int32) &&& 31))]) (st := []) dX0_takeAlleles_75 lv0_107 (by unfold RM; decide) (Nat.le_of_ble_eq_true rfl) rfl rfl (pk_ok hk) (T_X4_appendAllele hl h0) ?_
            refine r_iinc (v := v4 + 1) (lv' := [(4, .int (v4 + 1)), (6, .int t21), (5, .int (t16 >>> ((4 : Int32) &&& 31))), (0, .ref v0), (1, .ref v1), (2, .ref v2), (3, .int v3)]) dX0_takeAlleles_78 6 rfl rfl (by decide) rfl ?_
            refine r_goto (tgt := 20) dX0_takeAlleles_81 (by decide) ?_
            refine r_sub [3, 4, 5, 6, 0] rfl ?_
            exact ih v0 v1 v2 v3 (v4 + 1) S29 h
          · rw [if_neg c26] at h
            refine r_iconst (v := (0 : Int32)) dX0_takeAlleles_68 (by decide) ?_
            cases h
            exact r_ireturn dX0_takeAlleles_69 rfl (by decide) (by decide) (by decide)
        · rw [if_neg c19] at h
          refine r_iconst (v := (0 : Int32)) dX0_takeAlleles_47 (by decide) ?_
          cases h
          exact r_ireturn dX0_takeAlleles_48 rfl (by decide) (by decide) (by decide)

def F_X0_takeAlleles (v0 : Nat) (v1 : Nat) (v2 : Nat) (S : Mem) : Option (Int32 × Mem) :=
    (pk 0 S v0).bind fun _ =>
    bd2 (F_X0_take v0 S) fun t31 S32 =>
    if t31 < (2 : Int32) then
      some ((0 : Int32), S32)
    else
      if t31 ≤ (4 : Int32) then
        F_X0_takeAlleles_L20 FU v0 v1 v2 t31 (0 : Int32) S32
      else
        some ((0 : Int32), S32)
set_option maxRecDepth 100000 in
theorem T_X0_takeAlleles {g : GG} {l : Launch} (hl : l.stackTraces = false) {v0 : Nat} {v1 : Nat} {v2 : Nat} {S S' : Mem} {r : Int32} (h : F_X0_takeAlleles v0 v1 v2 S = some (r, S')) : Call g l uX0_takeAlleles [.ref v0, .ref v1, .ref v2] S (cvI r) S' := by
  refine call_of (by decide +kernel) hl rfl (Nat.le_of_ble_eq_true rfl) ?_
  show Run g l uX0_takeAlleles _ 0 [(0, .ref v0), (1, .ref v1), (2, .ref v2)] [] 0 0 S
  unfold F_X0_takeAlleles at h
  refine r_aload_n dX0_takeAlleles_0 rfl 0 rfl ?_
  obtain ⟨z30, hk, h⟩ := bd h
  obtain ⟨t31, S32, h0, h⟩ := bd2_s h
  refine r_invV (As := []) (st := []) dX0_takeAlleles_1 lv0_78 (by unfold RM; decide) (Nat.le_of_ble_eq_true rfl) rfl rfl (pk_ok hk) (T_X0_take hl h0) ?_
  refine r_istore_n (lv' := [(3, .int t31), (0, .ref v0), (1, .ref v1), (2, .ref v2)]) dX0_takeAlleles_4 rfl (by decide) rfl ?_
  refine r_iload_n dX0_takeAlleles_5 rfl 0 rfl ?_
  refine r_iconst (v := (2 : Int32)) dX0_takeAlleles_6 (by decide) ?_
  refine r_icmp_lt (tgt := 15) dX0_takeAlleles_7 (by decide) (fun c33 => ?_) (fun c33 => ?_)
  · rw [if_pos c33] at h
    refine r_iconst (v := (0 : Int32)) dX0_takeAlleles_15 (by decide) ?_
    cases h
    exact r_ireturn dX0_takeAlleles_16 rfl (by decide) (by decide) (by decide)
  · rw [if_neg c33] at h
    refine r_iload_n dX0_takeAlleles_10 rfl 0 rfl ?_
    refine r_iconst (v := (4 : Int32)) dX0_takeAlleles_11 (by decide) ?_
    refine r_icmp_le (tgt := 17) dX0_takeAlleles_12 (by decide) (fun c34 => ?_) (fun c34 => ?_)
    · rw [if_pos c34] at h
      refine r_iconst (v := (0 : Int32)) dX0_takeAlleles_17 (by decide) ?_
      refine r_istore (lv' := [(4, .int ((0 : Int32))), (3, .int t31), (0, .ref v0), (1, .ref v1), (2, .ref v2)]) dX0_takeAlleles_18 (by decide) rfl ?_
      refine r_sub [2, 3, 4, 1, 0] rfl ?_
      exact T_X0_takeAlleles_L20 hl FU v0 v1 v2 t31 (0 : Int32) S32 h
    · rw [if_neg c34] at h
      refine r_iconst (v := (0 : Int32)) dX0_takeAlleles_15 (by decide) ?_
      cases h
      exact r_ireturn dX0_takeAlleles_16 rfl (by decide) (by decide) (by decide)

def F_X0_takeNumbers_L12 : Nat → Nat → Nat → Int32 → Int32 → Int32 → Int32 → Int32 → Mem → Option (Int32 × Mem)
  | 0, _, _, _, _, _, _, _, _ => none
  | fu + 1, v0, v1, v2, v3, v4, v5, v6, S =>
    if (v2 + v3) ≤ v6 then
      some ((1 : Int32), S)
    else
      (pk 0 S v0).bind fun _ =>
      bd2 (F_X0_takeNumber v0 v5 S) fun t3 S4 =>
      (psI S4 v1 v6 t3).bind fun S5 =>
      (paI S5 v1 v6).bind fun t6 =>
      if t6 ≤ v4 then
        F_X0_takeNumbers_L12 fu v0 v1 v2 v3 v4 v5 (v6 + 1) S5
      else
        some ((0 : Int32), S5)
set_option maxRecDepth 100000 in
theorem T_X0_takeNumbers_L12 {g : GG} {l : Launch} (hl : l.stackTraces = false) {S' : Mem} {r : Int32}  : ∀ (fu : Nat) (v0 : Nat) (v1 : Nat) (v2 : Int32) (v3 : Int32) (v4 : Int32) (v5 : Int32) (v6 : Int32) (S : Mem), F_X0_takeNumbers_L12 fu v0 v1 v2 v3 v4 v5 v6 S = some (r, S') → Run g l uX0_takeNumbers (fin g uX0_takeNumbers (cvI r) S') 12 [(0, .ref v0), (1, .ref v1), (2, .int v2), (3, .int v3), (4, .int v4), (5, .int v5), (6, .int v6)] [] 0 0 S := by
  intro fu
  induction fu with
  | zero =>
    intro v0 v1 v2 v3 v4 v5 v6 S h
    cases (show none = some _ from h)
  | succ fu ih =>
    intro v0 v1 v2 v3 v4 v5 v6 S h
    unfold F_X0_takeNumbers_L12 at h
    refine r_iload dX0_takeNumbers_12 6 rfl ?_
    refine r_iload_n dX0_takeNumbers_14 rfl 2 rfl ?_
    refine r_iload_n dX0_takeNumbers_15 rfl 3 rfl ?_
    refine r_iadd dX0_takeNumbers_16 ?_
    refine r_icmp_ge (tgt := 47) dX0_takeNumbers_17 (by decide) (fun c1 => ?_) (fun c1 => ?_)
    · rw [if_pos c1] at h
      refine r_iconst (v := (1 : Int32)) dX0_takeNumbers_47 (by decide) ?_
      cases h
      exact r_ireturn dX0_takeNumbers_48 rfl (by decide) (by decide) (by decide)
    · rw [if_neg c1] at h
      refine r_aload_n dX0_takeNumbers_20 rfl 1 rfl ?_
      refine r_iload dX0_takeNumbers_21 6 rfl ?_
      refine r_aload_n dX0_takeNumbers_23 rfl 0 rfl ?_
      refine r_iload dX0_takeNumbers_24 5 rfl ?_
      obtain ⟨z2, hk, h⟩ := bd h
      obtain ⟨t3, S4, h0, h⟩ := bd2_s h
      refine r_invV (As := [.int v5]) (st := [.int v6, .ref v1]) dX0_takeNumbers_26 lv0_84 (by unfold RM; decide) (Nat.le_of_ble_eq_true rfl) rfl rfl (pk_ok hk) (T_X0_takeNumber hl h0) ?_
      obtain ⟨S5, h0, h⟩ := bd h
      refine q_iastore h0 dX0_takeNumbers_29 ?_
      refine r_aload_n dX0_takeNumbers_30 rfl 1 rfl ?_
      refine r_iload dX0_takeNumbers_31 6 rfl ?_
      obtain ⟨t6, h0, h⟩ := bd h
      refine q_iaload h0 dX0_takeNumbers_33 ?_
      refine r_iload dX0_takeNumbers_34 4 rfl ?_
      refine r_icmp_le (tgt := 41) dX0_takeNumbers_36 (by decide) (fun c7 => ?_) (fun c7 => ?_)
      · rw [if_pos c7] at h
        refine r_iinc (v := v6 + 1) (lv' := [(6, .int (v6 + 1)), (0, .ref v0), (1, .ref v1), (2, .int v2), (3, .int v3), (4, .int v4), (5, .int v5)]) dX0_takeNumbers_41 6 rfl rfl (by decide) rfl ?_
        refine r_goto (tgt := 12) dX0_takeNumbers_44 (by decide) ?_
        refine r_sub [1, 2, 3, 4, 5, 6, 0] rfl ?_
        exact ih v0 v1 v2 v3 v4 v5 (v6 + 1) S5 h
      · rw [if_neg c7] at h
        refine r_iconst (v := (0 : Int32)) dX0_takeNumbers_39 (by decide) ?_
        cases h
        exact r_ireturn dX0_takeNumbers_40 rfl (by decide) (by decide) (by decide)

def F_X0_takeNumbers (v0 : Nat) (v1 : Nat) (v2 : Int32) (v3 : Int32) (v4 : Int32) (S : Mem) : Option (Int32 × Mem) :=
    (pk 0 S v0).bind fun _ =>
    bd2 (F_X0_take v0 S) fun t9 S10 =>
    F_X0_takeNumbers_L12 FU v0 v1 v2 v3 v4 (t9 &&& (15 : Int32)) v2 S10
set_option maxRecDepth 100000 in
theorem T_X0_takeNumbers {g : GG} {l : Launch} (hl : l.stackTraces = false) {v0 : Nat} {v1 : Nat} {v2 : Int32} {v3 : Int32} {v4 : Int32} {S S' : Mem} {r : Int32} (h : F_X0_takeNumbers v0 v1 v2 v3 v4 S = some (r, S')) : Call g l uX0_takeNumbers [.ref v0, .ref v1, .int v2, .int v3, .int v4] S (cvI r) S' := by
  refine call_of (by decide +kernel) hl rfl (Nat.le_of_ble_eq_true rfl) ?_
  show Run g l uX0_takeNumbers _ 0 [(0, .ref v0), (1, .ref v1), (2, .int v2), (3, .int v3), (4, .int v4)] [] 0 0 S
  unfold F_X0_takeNumbers at h
  refine r_aload_n dX0_takeNumbers_0 rfl 0 rfl ?_
  obtain ⟨z8, hk, h⟩ := bd h
  obtain ⟨t9, S10, h0, h⟩ := bd2_s h
  refine r_invV (As := []) (st := []) dX0_takeNumbers_1 lv0_78 (by unfold RM; decide) (Nat.le_of_ble_eq_true rfl) rfl rfl (pk_ok hk) (T_X0_take hl h0) ?_
  refine r_bipush (v := (15 : Int32)) dX0_takeNumbers_4 (by decide) ?_
  refine r_iand dX0_takeNumbers_6 ?_
  refine r_istore (lv' := [(5, .int (t9 &&& (15 : Int32))), (0, .ref v0), (1, .ref v1), (2, .int v2), (3, .int v3), (4, .int v4)]) dX0_takeNumbers_7 (by decide) rfl ?_
  refine r_iload_n dX0_takeNumbers_9 rfl 3 rfl ?_
  refine r_istore (lv' := [(6, .int v2), (5, .int (t9 &&& (15 : Int32))), (0, .ref v0), (1, .ref v1), (2, .int v2), (3, .int v3), (4, .int v4)]) dX0_takeNumbers_10 (by decide) rfl ?_
  refine r_sub [2, 3, 4, 5, 6, 1, 0] rfl ?_
  exact T_X0_takeNumbers_L12 hl FU v0 v1 v2 v3 v4 (t9 &&& (15 : Int32)) v2 S10 h

def F_X0_takeGenotype_J62 (v1 : Nat) (v3 : Int32) (v4 : Int32) (s0 : Nat) (s1 : Int32) (s2 : Int32) (S : Mem) : Option (Int32 × Mem) :=
    (psZ S s0 s1 s2).bind fun S1 =>
    (pk 4 S1 v1).bind fun _ =>
    bd2 (F_X4_allowsInGenotype v1 ((v3 >>> ((1 : Int32) &&& 31)) - (1 : Int32)) S1) fun t3 S4 =>
    if t3 = 0 then
      some ((0 : Int32), S4)
    else
      (pk 4 S4 v1).bind fun _ =>
      bd2 (F_X4_allowsInGenotype v1 ((v4 >>> ((1 : Int32) &&& 31)) - (1 : Int32)) S4) fun t7 S8 =>
      if t7 = 0 then
        some ((0 : Int32), S8)
      else
        some ((1 : Int32), S8)
set_option maxRecDepth 100000 in
theorem T_X0_takeGenotype_J62 {g : GG} {l : Launch} (hl : l.stackTraces = false) {S' : Mem} {r : Int32}  : ∀ (v1 : Nat) (v3 : Int32) (v4 : Int32) (s0 : Nat) (s1 : Int32) (s2 : Int32) (S : Mem), F_X0_takeGenotype_J62 v1 v3 v4 s0 s1 s2 S = some (r, S') → Run g l uX0_takeGenotype (fin g uX0_takeGenotype (cvI r) S') 62 [(1, .ref v1), (3, .int v3), (4, .int v4)] [.int s2, .int s1, .ref s0] 0 0 S := by
  intro v1 v3 v4 s0 s1 s2 S h
  unfold F_X0_takeGenotype_J62 at h
  obtain ⟨S1, h0, h⟩ := bd h
  refine q_bastore h0 dX0_takeGenotype_62 ?_
  refine r_aload_n dX0_takeGenotype_63 rfl 0 rfl ?_
  refine r_iload_n dX0_takeGenotype_64 rfl 1 rfl ?_
  refine r_iconst (v := (1 : Int32)) dX0_takeGenotype_65 (by decide) ?_
  refine r_ishr dX0_takeGenotype_66 ?_
  refine r_iconst (v := (1 : Int32)) dX0_takeGenotype_67 (by decide) ?_
  refine r_isub dX0_takeGenotype_68 ?_
  obtain ⟨z2, hk, h⟩ := bd h
  obtain ⟨t3, S4, h0, h⟩ := bd2_s h
  refine r_invV (As := [.int ((v3 >>> ((1 : Int32) &&& 31)) - (1 : Int32))]) (st := []) dX0_takeGenotype_69 lv0_118 (by unfold RM; decide) (Nat.le_of_ble_eq_true rfl) rfl rfl (pk_ok hk) (T_X4_allowsInGenotype hl h0) ?_
  refine r_if_eq (tgt := 92) dX0_takeGenotype_72 (by decide) (fun c5 => ?_) (fun c5 => ?_)
  · rw [if_pos c5] at h
    refine r_iconst (v := (0 : Int32)) dX0_takeGenotype_92 (by decide) ?_
    cases h
    exact r_ireturn dX0_takeGenotype_93 rfl (by decide) (by decide) (by decide)
  · rw [if_neg c5] at h
    refine r_aload_n dX0_takeGenotype_75 rfl 0 rfl ?_
    refine r_iload dX0_takeGenotype_76 2 rfl ?_
    refine r_iconst (v := (1 : Int32)) dX0_takeGenotype_78 (by decide) ?_
    refine r_ishr dX0_takeGenotype_79 ?_
    refine r_iconst (v := (1 : Int32)) dX0_takeGenotype_80 (by decide) ?_
    refine r_isub dX0_takeGenotype_81 ?_
    obtain ⟨z6, hk, h⟩ := bd h
    obtain ⟨t7, S8, h0, h⟩ := bd2_s h
    refine r_invV (As := [.int ((v4 >>> ((1 : Int32) &&& 31)) - (1 : Int32))]) (st := []) dX0_takeGenotype_82 lv0_118 (by unfold RM; decide) (Nat.le_of_ble_eq_true rfl) rfl rfl (pk_ok hk) (T_X4_allowsInGenotype hl h0) ?_
    refine r_if_eq (tgt := 92) dX0_takeGenotype_85 (by decide) (fun c9 => ?_) (fun c9 => ?_)
    · rw [if_pos c9] at h
      refine r_iconst (v := (0 : Int32)) dX0_takeGenotype_92 (by decide) ?_
      cases h
      exact r_ireturn dX0_takeGenotype_93 rfl (by decide) (by decide) (by decide)
    · rw [if_neg c9] at h
      refine r_iconst (v := (1 : Int32)) dX0_takeGenotype_88 (by decide) ?_
      refine r_goto (tgt := 93) dX0_takeGenotype_89 (by decide) ?_
      cases h
      exact r_ireturn dX0_takeGenotype_93 rfl (by decide) (by decide) (by decide)

def F_X0_takeGenotype (v0 : Nat) (v1 : Nat) (v2 : Int32) (S : Mem) : Option (Int32 × Mem) :=
    (pk 0 S v0).bind fun _ =>
    bd2 (F_X0_take v0 S) fun t11 S12 =>
    (pk 0 S12 v0).bind fun _ =>
    bd2 (F_X0_take v0 S12) fun t14 S15 =>
    (pk 0 S15 v0).bind fun _ =>
    bd2 (F_X0_take v0 S15) fun t17 S18 =>
    (pgR 4 6 S18 v1).bind fun t19 =>
    (psI S18 t19 ((2 : Int32) * v2) ((t14 >>> ((1 : Int32) &&& 31)) - (1 : Int32))).bind fun S20 =>
    (pgR 4 6 S20 v1).bind fun t21 =>
    (psI S20 t21 (((2 : Int32) * v2) + (1 : Int32)) ((t17 >>> ((1 : Int32) &&& 31)) - (1 : Int32))).bind fun S22 =>
    (pgR 4 7 S22 v1).bind fun t23 =>
    if (t14 &&& (1 : Int32)) = (1 : Int32) then
      F_X0_takeGenotype_J62 v1 t14 t17 t23 v2 (1 : Int32) S22
    else
      F_X0_takeGenotype_J62 v1 t14 t17 t23 v2 (0 : Int32) S22
set_option maxRecDepth 100000 in
theorem T_X0_takeGenotype {g : GG} {l : Launch} (hl : l.stackTraces = false) {v0 : Nat} {v1 : Nat} {v2 : Int32} {S S' : Mem} {r : Int32} (h : F_X0_takeGenotype v0 v1 v2 S = some (r, S')) : Call g l uX0_takeGenotype [.ref v0, .ref v1, .int v2] S (cvI r) S' := by
  refine call_of (by decide +kernel) hl rfl (Nat.le_of_ble_eq_true rfl) ?_
  show Run g l uX0_takeGenotype _ 0 [(0, .ref v0), (1, .ref v1), (2, .int v2)] [] 0 0 S
  unfold F_X0_takeGenotype at h
  refine r_aload_n dX0_takeGenotype_0 rfl 0 rfl ?_
  obtain ⟨z10, hk, h⟩ := bd h
  obtain ⟨t11, S12, h0, h⟩ := bd2_s h
  refine r_invV (As := []) (st := []) dX0_takeGenotype_1 lv0_78 (by unfold RM; decide) (Nat.le_of_ble_eq_true rfl) rfl rfl (pk_ok hk) (T_X0_take hl h0) ?_
  refine r_pop dX0_takeGenotype_4 rfl ?_
  refine r_aload_n dX0_takeGenotype_5 rfl 0 rfl ?_
  obtain ⟨z13, hk, h⟩ := bd h
  obtain ⟨t14, S15, h0, h⟩ := bd2_s h
  refine r_invV (As := []) (st := []) dX0_takeGenotype_6 lv0_78 (by unfold RM; decide) (Nat.le_of_ble_eq_true rfl) rfl rfl (pk_ok hk) (T_X0_take hl h0) ?_
  refine r_istore_n (lv' := [(3, .int t14), (0, .ref v0), (1, .ref v1), (2, .int v2)]) dX0_takeGenotype_9 rfl (by decide) rfl ?_
  refine r_aload_n dX0_takeGenotype_10 rfl 1 rfl ?_
  obtain ⟨z16, hk, h⟩ := bd h
  obtain ⟨t17, S18, h0, h⟩ := bd2_s h
  refine r_invV (As := []) (st := []) dX0_takeGenotype_11 lv0_78 (by unfold RM; decide) (Nat.le_of_ble_eq_true rfl) rfl rfl (pk_ok hk) (T_X0_take hl h0) ?_
  refine r_istore (lv' := [(4, .int t17), (3, .int t14), (0, .ref v0), (1, .ref v1), (2, .int v2)]) dX0_takeGenotype_14 (by decide) rfl ?_
  refine r_aload_n dX0_takeGenotype_16 rfl 3 rfl ?_
  obtain ⟨t19, h0, h⟩ := bd h
  refine q_getR h0 dX0_takeGenotype_17 fl0_61 rfl ?_
  refine r_iconst (v := (2 : Int32)) dX0_takeGenotype_20 (by decide) ?_
  refine r_iload_n dX0_takeGenotype_21 rfl 4 rfl ?_
  refine r_imul dX0_takeGenotype_22 ?_
  refine r_iload_n dX0_takeGenotype_23 rfl 1 rfl ?_
  refine r_iconst (v := (1 : Int32)) dX0_takeGenotype_24 (by decide) ?_
  refine r_ishr dX0_takeGenotype_25 ?_
  refine r_iconst (v := (1 : Int32)) dX0_takeGenotype_26 (by decide) ?_
  refine r_isub dX0_takeGenotype_27 ?_
  obtain ⟨S20, h0, h⟩ := bd h
  refine q_iastore h0 dX0_takeGenotype_28 ?_
  refine r_aload_n dX0_takeGenotype_29 rfl 3 rfl ?_
  obtain ⟨t21, h0, h⟩ := bd h
  refine q_getR h0 dX0_takeGenotype_30 fl0_61 rfl ?_
  refine r_iconst (v := (2 : Int32)) dX0_takeGenotype_33 (by decide) ?_
  refine r_iload_n dX0_takeGenotype_34 rfl 4 rfl ?_
  refine r_imul dX0_takeGenotype_35 ?_
  refine r_iconst (v := (1 : Int32)) dX0_takeGenotype_36 (by decide) ?_
  refine r_iadd dX0_takeGenotype_37 ?_
  refine r_iload dX0_takeGenotype_38 0 rfl ?_
  refine r_iconst (v := (1 : Int32)) dX0_takeGenotype_40 (by decide) ?_
  refine r_ishr dX0_takeGenotype_41 ?_
  refine r_iconst (v := (1 : Int32)) dX0_takeGenotype_42 (by decide) ?_
  refine r_isub dX0_takeGenotype_43 ?_
  obtain ⟨S22, h0, h⟩ := bd h
  refine q_iastore h0 dX0_takeGenotype_44 ?_
  refine r_aload_n dX0_takeGenotype_45 rfl 3 rfl ?_
  obtain ⟨t23, h0, h⟩ := bd h
  refine q_getR h0 dX0_takeGenotype_46 fl0_57 rfl ?_
  refine r_iload_n dX0_takeGenotype_49 rfl 4 rfl ?_
  refine r_iload_n dX0_takeGenotype_50 rfl 1 rfl ?_
  refine r_iconst (v := (1 : Int32)) dX0_takeGenotype_51 (by decide) ?_
  refine r_iand dX0_takeGenotype_52 ?_
  refine r_iconst (v := (1 : Int32)) dX0_takeGenotype_53 (by decide) ?_
  refine r_icmp_ne (tgt := 61) dX0_takeGenotype_54 (by decide) (fun c24 => ?_) (fun c24 => ?_)
  · rw [if_neg c24] at h
    refine r_iconst (v := (0 : Int32)) dX0_takeGenotype_61 (by decide) ?_
    refine r_sub [3, 1, 0] rfl ?_
    exact T_X0_takeGenotype_J62 hl v1 t14 t17 t23 v2 (0 : Int32) S22 h
  · rw [if_pos c24] at h
    refine r_iconst (v := (1 : Int32)) dX0_takeGenotype_57 (by decide) ?_
    refine r_goto (tgt := 62) dX0_takeGenotype_58 (by decide) ?_
    refine r_sub [3, 1, 0] rfl ?_
    exact T_X0_takeGenotype_J62 hl v1 t14 t17 t23 v2 (1 : Int32) S22 h

def F_X0_takeVariant_L71 : Nat → Nat → Nat → Int32 → Mem → Option (Int32 × Mem)
  | 0, _, _, _, _ => none
  | fu + 1, v0, v1, v3, S =>
    if (2 : Int32) ≤ v3 then
      some ((1 : Int32), S)
    else
      (pk 0 S v0).bind fun _ =>
      bd2 (F_X0_takeGenotype v0 v1 v3 S) fun t3 S4 =>
      if t3 = 0 then
        some ((0 : Int32), S4)
      else
        (pgR 4 8 S4 v1).bind fun t6 =>
        (pk 4 S4 v1).bind fun _ =>
        bd2 (F_X4_pairs v1 S4) fun t8 S9 =>
        (pk 0 S9 v0).bind fun _ =>
        bd2 (F_X0_takeNumbers v0 t6 ((10 : Int32) * v3) t8 (999 : Int32) S9) fun t11 S12 =>
        if t11 = 0 then
          some ((0 : Int32), S12)
        else
          F_X0_takeVariant_L71 fu v0 v1 (v3 + 1) S12
set_option maxRecDepth 100000 in
theorem T_X0_takeVariant_L71 {g : GG} {l : Launch} (hl : l.stackTraces = false) {S' : Mem} {r : Int32}  : ∀ (fu : Nat) (v0 : Nat) (v1 : Nat) (v3 : Int32) (S : Mem), F_X0_takeVariant_L71 fu v0 v1 v3 S = some (r, S') → Run g l uX0_takeVariant (fin g uX0_takeVariant (cvI r) S') 71 [(0, .ref v0), (1, .ref v1), (3, .int v3)] [] 0 0 S := by
  intro fu
  induction fu with
  | zero =>
    intro v0 v1 v3 S h
    cases (show none = some _ from h)
  | succ fu ih =>
    intro v0 v1 v3 S h
    unfold F_X0_takeVariant_L71 at h
    refine r_iload_n dX0_takeVariant_71 rfl 2 rfl ?_
    refine r_iconst (v := (2 : Int32)) dX0_takeVariant_72 (by decide) ?_
    refine r_icmp_ge (tgt := 121) dX0_takeVariant_73 (by decide) (fun c1 => ?_) (fun c1 => ?_)
    · rw [if_pos c1] at h
      refine r_iconst (v := (1 : Int32)) dX0_takeVariant_121 (by decide) ?_
      cases h
      exact r_ireturn dX0_takeVariant_122 rfl (by decide) (by decide) (by decide)
    · rw [if_neg c1] at h
      refine r_aload_n dX0_takeVariant_76 rfl 0 rfl ?_
      refine r_aload_n dX0_takeVariant_77 rfl 1 rfl ?_
      refine r_iload_n dX0_takeVariant_78 rfl 2 rfl ?_
      obtain ⟨z2, hk, h⟩ := bd h
      obtain ⟨t3, S4, h0, h⟩ := bd2_s h
      refine r_invV (As := [.ref v1, .int v3]) (st := []) dX0_takeVariant_79 lv0_96 (by unfold RM; decide) (Nat.le_of_ble_eq_true rfl) rfl rfl (pk_ok hk) (T_X0_takeGenotype hl h0) ?_
      refine r_if_ne (tgt := 87) dX0_takeVariant_82 (by decide) (fun c5 => ?_) (fun c5 => ?_)
      · rw [if_neg c5] at h
        refine r_bipush (v := (10 : Int32)) dX0_takeVariant_87 (by decide) ?_
        refine r_iload_n dX0_takeVariant_89 rfl 2 rfl ?_
        refine r_imul dX0_takeVariant_90 ?_
        refine r_istore (lv' := [(4, .int ((10 : Int32) * v3)), (0, .ref v0), (1, .ref v1), (3, .int v3)]) dX0_takeVariant_91 (by decide) rfl ?_
        refine r_aload_n dX0_takeVariant_93 rfl 1 rfl ?_
        refine r_aload_n dX0_takeVariant_94 rfl 2 rfl ?_
        obtain ⟨t6, h0, h⟩ := bd h
        refine q_getR h0 dX0_takeVariant_95 fl0_64 rfl ?_
        refine r_iload dX0_takeVariant_98 0 rfl ?_
        refine r_aload_n dX0_takeVariant_100 rfl 2 rfl ?_
        obtain ⟨z7, hk, h⟩ := bd h
        obtain ⟨t8, S9, h0, h⟩ := bd2_s h
        refine r_invV (As := []) (st := [.int ((10 : Int32) * v3), .ref t6, .ref v0]) dX0_takeVariant_101 lv0_67 (by unfold RM; decide) (Nat.le_of_ble_eq_true rfl) rfl rfl (pk_ok hk) (T_X4_pairs hl h0) ?_
        refine r_sipush (v := (999 : Int32)) dX0_takeVariant_104 (by decide) ?_
        obtain ⟨z10, hk, h⟩ := bd h
        obtain ⟨t11, S12, h0, h⟩ := bd2_s h
        refine r_invV (As := [.ref t6, .int ((10 : Int32) * v3), .int t8, .int ((999 : Int32))]) (st := []) dX0_takeVariant_107 lv0_92 (by unfold RM; decide) (Nat.le_of_ble_eq_true rfl) rfl rfl (pk_ok hk) (T_X0_takeNumbers hl h0) ?_
        refine r_if_ne (tgt := 115) dX0_takeVariant_110 (by decide) (fun c13 => ?_) (fun c13 => ?_)
        · rw [if_neg c13] at h
          refine r_iinc (v := v3 + 1) (lv' := [(3, .int (v3 + 1)), (4, .int ((10 : Int32) * v3)), (0, .ref v0), (1, .ref v1)]) dX0_takeVariant_115 3 rfl rfl (by decide) rfl ?_
          refine r_goto (tgt := 71) dX0_takeVariant_118 (by decide) ?_
          refine r_sub [2, 3, 0] rfl ?_
          exact ih v0 v1 (v3 + 1) S12 h
        · rw [if_pos c13] at h
          refine r_iconst (v := (0 : Int32)) dX0_takeVariant_113 (by decide) ?_
          cases h
          exact r_ireturn dX0_takeVariant_114 rfl (by decide) (by decide) (by decide)
      · rw [if_pos c5] at h
        refine r_iconst (v := (0 : Int32)) dX0_takeVariant_85 (by decide) ?_
        cases h
        exact r_ireturn dX0_takeVariant_86 rfl (by decide) (by decide) (by decide)

def F_X0_takeVariant (v0 : Nat) (v1 : Nat) (v2 : Nat) (S : Mem) : Option (Int32 × Mem) :=
    (ppI 0 2 S v0 (0 : Int32)).bind fun S14 =>
    (pk 4 S14 v1).bind fun _ =>
    (F_X4_clear v1 S14).bind fun S17 =>
    (pk 0 S17 v0).bind fun _ =>
    bd2 (F_X0_takeNumber v0 (2 : Int32) S17) fun t19 S20 =>
    (ppI 4 0 S20 v1 t19).bind fun S21 =>
    (pk 0 S21 v0).bind fun _ =>
    bd2 (F_X0_takeNumber v0 (2 : Int32) S21) fun t23 S24 =>
    (ppI 4 1 S24 v1 t23).bind fun S25 =>
    (pgI 4 1 S25 v1).bind fun t26 =>
    if (8000 : Int32) < t26 then
      some ((0 : Int32), S25)
    else
      (pk 0 S25 v0).bind fun _ =>
      bd2 (F_X0_takeAlleles v0 v1 v2 S25) fun t29 S30 =>
      if t29 = 0 then
        some ((0 : Int32), S30)
      else
        (pgR 4 5 S30 v1).bind fun t32 =>
        (pgI 4 2 S30 v1).bind fun t33 =>
        (pk 0 S30 v0).bind fun _ =>
        bd2 (F_X0_takeNumbers v0 t32 (0 : Int32) t33 (9999 : Int32) S30) fun t35 S36 =>
        if t35 = 0 then
          some ((0 : Int32), S36)
        else
          F_X0_takeVariant_L71 FU v0 v1 (0 : Int32) S36
set_option maxRecDepth 100000 in
theorem T_X0_takeVariant {g : GG} {l : Launch} (hl : l.stackTraces = false) {v0 : Nat} {v1 : Nat} {v2 : Nat} {S S' : Mem} {r : Int32} (h : F_X0_takeVariant v0 v1 v2 S = some (r, S')) : Call g l uX0_takeVariant [.ref v0, .ref v1, .ref v2] S (cvI r) S' := by
  refine call_of (by decide +kernel) hl rfl (Nat.le_of_ble_eq_true rfl) ?_
  show Run g l uX0_takeVariant _ 0 [(0, .ref v0), (1, .ref v1), (2, .ref v2)] [] 0 0 S
  unfold F_X0_takeVariant at h
  refine r_aload_n dX0_takeVariant_0 rfl 0 rfl ?_
  refine r_iconst (v := (0 : Int32)) dX0_takeVariant_1 (by decide) ?_
  obtain ⟨S14, h0, h⟩ := bd h
  refine q_putI h0 dX0_takeVariant_2 fl0_19 rfl ?_
  refine r_aload_n dX0_takeVariant_5 rfl 1 rfl ?_
  obtain ⟨z15, hk, h⟩ := bd h
  obtain ⟨S17, h0, h⟩ := bd h
  refine r_invV (As := []) (st := []) dX0_takeVariant_6 lv0_81 (by unfold RM; decide) (Nat.le_of_ble_eq_true rfl) rfl rfl (pk_ok hk) (T_X4_clear hl h0) ?_
  refine r_aload_n dX0_takeVariant_9 rfl 1 rfl ?_
  refine r_aload_n dX0_takeVariant_10 rfl 0 rfl ?_
  refine r_iconst (v := (2 : Int32)) dX0_takeVariant_11 (by decide) ?_
  obtain ⟨z18, hk, h⟩ := bd h
  obtain ⟨t19, S20, h0, h⟩ := bd2_s h
  refine r_invV (As := [.int ((2 : Int32))]) (st := [.ref v1]) dX0_takeVariant_12 lv0_84 (by unfold RM; decide) (Nat.le_of_ble_eq_true rfl) rfl rfl (pk_ok hk) (T_X0_takeNumber hl h0) ?_
  obtain ⟨S21, h0, h⟩ := bd h
  refine q_putI h0 dX0_takeVariant_15 fl0_26 rfl ?_
  refine r_aload_n dX0_takeVariant_18 rfl 1 rfl ?_
  refine r_aload_n dX0_takeVariant_19 rfl 0 rfl ?_
  refine r_iconst (v := (2 : Int32)) dX0_takeVariant_20 (by decide) ?_
  obtain ⟨z22, hk, h⟩ := bd h
  obtain ⟨t23, S24, h0, h⟩ := bd2_s h
  refine r_invV (As := [.int ((2 : Int32))]) (st := [.ref v1]) dX0_takeVariant_21 lv0_84 (by unfold RM; decide) (Nat.le_of_ble_eq_true rfl) rfl rfl (pk_ok hk) (T_X0_takeNumber hl h0) ?_
  obtain ⟨S25, h0, h⟩ := bd h
  refine q_putI h0 dX0_takeVariant_24 fl0_35 rfl ?_
  refine r_aload_n dX0_takeVariant_27 rfl 1 rfl ?_
  obtain ⟨t26, h0, h⟩ := bd h
  refine q_getI h0 dX0_takeVariant_28 fl0_35 rfl ?_
  refine r_sipush (v := (8000 : Int32)) dX0_takeVariant_31 (by decide) ?_
  refine r_icmp_gt (tgt := 46) dX0_takeVariant_34 (by decide) (fun c27 => ?_) (fun c27 => ?_)
  · rw [if_pos c27] at h
    refine r_iconst (v := (0 : Int32)) dX0_takeVariant_46 (by decide) ?_
    cases h
    exact r_ireturn dX0_takeVariant_47 rfl (by decide) (by decide) (by decide)
  · rw [if_neg c27] at h
    refine r_aload_n dX0_takeVariant_37 rfl 0 rfl ?_
    refine r_aload_n dX0_takeVariant_38 rfl 1 rfl ?_
    refine r_aload_n dX0_takeVariant_39 rfl 2 rfl ?_
    obtain ⟨z28, hk, h⟩ := bd h
    obtain ⟨t29, S30, h0, h⟩ := bd2_s h
    refine r_invV (As := [.ref v1, .ref v2]) (st := []) dX0_takeVariant_40 lv0_88 (by unfold RM; decide) (Nat.le_of_ble_eq_true rfl) rfl rfl (pk_ok hk) (T_X0_takeAlleles hl h0) ?_
    refine r_if_ne (tgt := 48) dX0_takeVariant_43 (by decide) (fun c31 => ?_) (fun c31 => ?_)
    · rw [if_neg c31] at h
      refine r_aload_n dX0_takeVariant_48 rfl 0 rfl ?_
      refine r_aload_n dX0_takeVariant_49 rfl 1 rfl ?_
      obtain ⟨t32, h0, h⟩ := bd h
      refine q_getR h0 dX0_takeVariant_50 fl0_50 rfl ?_
      refine r_iconst (v := (0 : Int32)) dX0_takeVariant_53 (by decide) ?_
      refine r_aload_n dX0_takeVariant_54 rfl 1 rfl ?_
      obtain ⟨t33, h0, h⟩ := bd h
      refine q_getI h0 dX0_takeVariant_55 fl0_38 rfl ?_
      refine r_sipush (v := (9999 : Int32)) dX0_takeVariant_58 (by decide) ?_
      obtain ⟨z34, hk, h⟩ := bd h
      obtain ⟨t35, S36, h0, h⟩ := bd2_s h
      refine r_invV (As := [.ref t32, .int ((0 : Int32)), .int t33, .int ((9999 : Int32))]) (st := []) dX0_takeVariant_61 lv0_92 (by unfold RM; decide) (Nat.le_of_ble_eq_true rfl) rfl rfl (pk_ok hk) (T_X0_takeNumbers hl h0) ?_
      refine r_if_ne (tgt := 69) dX0_takeVariant_64 (by decide) (fun c37 => ?_) (fun c37 => ?_)
      · rw [if_neg c37] at h
        refine r_iconst (v := (0 : Int32)) dX0_takeVariant_69 (by decide) ?_
        refine r_istore_n (lv' := [(3, .int ((0 : Int32))), (0, .ref v0), (1, .ref v1), (2, .ref v2)]) dX0_takeVariant_70 rfl (by decide) rfl ?_
        refine r_sub [1, 2, 0] rfl ?_
        exact T_X0_takeVariant_L71 hl FU v0 v1 (0 : Int32) S36 h
      · rw [if_pos c37] at h
        refine r_iconst (v := (0 : Int32)) dX0_takeVariant_67 (by decide) ?_
        cases h
        exact r_ireturn dX0_takeVariant_68 rfl (by decide) (by decide) (by decide)
    · rw [if_pos c31] at h
      refine r_iconst (v := (0 : Int32)) dX0_takeVariant_46 (by decide) ?_
      cases h
      exact r_ireturn dX0_takeVariant_47 rfl (by decide) (by decide) (by decide)

