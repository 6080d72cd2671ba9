def F_X5_baseOf (v0 : Int64) (v2 : Int32) (v3 : Int32) (S : Mem) : Option (Int32 × Mem) :=
    some ((((v0.toUInt64 >>> (((2 : Int32) * ((v2 - (1 : Int32)) - v3)).toInt64.toUInt64 &&& Int64.toUInt64 63)).toInt64).toInt32) &&& (3 : Int32), S)
set_option maxRecDepth 100000 in
theorem T_X5_baseOf {g : GG} {l : Launch} (hl : l.stackTraces = false) {v0 : Int64} {v2 : Int32} {v3 : Int32} {S S' : Mem} {r : Int32} (h : F_X5_baseOf v0 v2 v3 S = some (r, S')) : Call g l uX5_baseOf [.long v0, .int v2, .int v3] S (cvI r) S' := by
  refine call_of (by decide +kernel) hl rfl (Nat.le_of_ble_eq_true rfl) ?_
  show Run g l uX5_baseOf _ 0 [(0, .long v0), (2, .int v2), (3, .int v3)] [] 0 0 S
  unfold F_X5_baseOf at h
  refine r_lload_n dX5_baseOf_0 rfl 0 rfl ?_
  refine r_iconst (v := (2 : Int32)) dX5_baseOf_1 (by decide) ?_
  refine r_iload_n dX5_baseOf_2 rfl 1 rfl ?_
  refine r_iconst (v := (1 : Int32)) dX5_baseOf_3 (by decide) ?_
  refine r_isub dX5_baseOf_4 ?_
  refine r_iload_n dX5_baseOf_5 rfl 2 rfl ?_
  refine r_isub dX5_baseOf_6 ?_
  refine r_imul dX5_baseOf_7 ?_
  refine r_lushr dX5_baseOf_8 ?_
  refine r_l2i dX5_baseOf_9 ?_
  refine r_iconst (v := (3 : Int32)) dX5_baseOf_10 (by decide) ?_
  refine r_iand dX5_baseOf_11 ?_
  cases h
  exact r_ireturn dX5_baseOf_12 rfl rfl (by decide) (by decide)

def F_X3_append_L3 : Nat → Nat → Int64 → Int32 → Int32 → Mem → Option Mem
  | 0, _, _, _, _, _ => none
  | fu + 1, v0, v1, v3, v4, S =>
    if v3 ≤ v4 then
      some S
    else
      (pgI 3 1 S v0).bind fun t2 =>
      if (160 : Int32) ≤ t2 then
        some S
      else
        (pgR 3 0 S v0).bind fun t4 =>
        (pgI 3 1 S v0).bind fun t5 =>
        bd2 (F_X5_baseOf v1 v3 v4 S) fun t6 S7 =>
        (psI S7 t4 t5 t6).bind fun S8 =>
        (pgI 3 1 S8 v0).bind fun t9 =>
        (ppI 3 1 S8 v0 (t9 + (1 : Int32))).bind fun S10 =>
        F_X3_append_L3 fu v0 v1 v3 (v4 + 1) S10
set_option maxRecDepth 100000 in
theorem T_X3_append_L3 {g : GG} {l : Launch} (hl : l.stackTraces = false) {S' : Mem}  : ∀ (fu : Nat) (v0 : Nat) (v1 : Int64) (v3 : Int32) (v4 : Int32) (S : Mem), F_X3_append_L3 fu v0 v1 v3 v4 S = some S' → Run g l uX3_append (fin g uX3_append cvV S') 3 [(0, .ref v0), (1, .long v1), (3, .int v3), (4, .int v4)] [] 0 0 S := by
  intro fu
  induction fu with
  | zero =>
    intro v0 v1 v3 v4 S h
    cases (show none = some _ from h)
  | succ fu ih =>
    intro v0 v1 v3 v4 S h
    unfold F_X3_append_L3 at h
    refine r_iload dX3_append_3 3 rfl ?_
    refine r_iload_n dX3_append_5 rfl 2 rfl ?_
    refine r_icmp_ge (tgt := 51) dX3_append_6 (by decide) (fun c1 => ?_) (fun c1 => ?_)
    · rw [if_pos c1] at h
      cases h
      exact r_return dX3_append_51 rfl (by decide) (by decide)
    · rw [if_neg c1] at h
      refine r_aload_n dX3_append_9 rfl 0 rfl ?_
      obtain ⟨t2, h0, h⟩ := bd h
      refine q_getI h0 dX3_append_10 fl3_15 rfl ?_
      refine r_sipush (v := (160 : Int32)) dX3_append_13 (by decide) ?_
      refine r_icmp_ge (tgt := 51) dX3_append_16 (by decide) (fun c3 => ?_) (fun c3 => ?_)
      · rw [if_pos c3] at h
        cases h
        exact r_return dX3_append_51 rfl (by decide) (by decide)
      · rw [if_neg c3] at h
        refine r_aload_n dX3_append_19 rfl 0 rfl ?_
        obtain ⟨t4, h0, h⟩ := bd h
        refine q_getR h0 dX3_append_20 fl3_9 rfl ?_
        refine r_aload_n dX3_append_23 rfl 0 rfl ?_
        obtain ⟨t5, h0, h⟩ := bd h
        refine q_getI h0 dX3_append_24 fl3_15 rfl ?_
        refine r_lload_n dX3_append_27 rfl 1 rfl ?_
        refine r_iload_n dX3_append_28 rfl 2 rfl ?_
        refine r_iload dX3_append_29 3 rfl ?_
        obtain ⟨t6, S7, h0, h⟩ := bd2_s h
        refine r_invN (As := [.long v1, .int v3, .int v4]) (st := [.int t5, .ref t4]) dX3_append_31 ln3_19 (by unfold RM; decide) (Nat.le_of_ble_eq_true rfl) rfl rfl (T_X5_baseOf hl h0) ?_
        obtain ⟨S8, h0, h⟩ := bd h
        refine q_iastore h0 dX3_append_34 ?_
        refine r_aload_n dX3_append_35 rfl 0 rfl ?_
        refine r_dup dX3_append_36 rfl ?_
        obtain ⟨t9, h0, h⟩ := bd h
        refine q_getI h0 dX3_append_37 fl3_15 rfl ?_
        refine r_iconst (v := (1 : Int32)) dX3_append_40 (by decide) ?_
        refine r_iadd dX3_append_41 ?_
        obtain ⟨S10, h0, h⟩ := bd h
        refine q_putI h0 dX3_append_42 fl3_15 rfl ?_
        refine r_iinc (v := v4 + 1) (lv' := [(4, .int (v4 + 1)), (0, .ref v0), (1, .long v1), (3, .int v3)]) dX3_append_45 3 rfl rfl (by decide) rfl ?_
        refine r_goto (tgt := 3) dX3_append_48 (by decide) ?_
        refine r_sub [1, 2, 3, 0] rfl ?_
        exact ih v0 v1 v3 (v4 + 1) S10 h

def F_X3_append (v0 : Nat) (v1 : Int64) (v3 : Int32) (S : Mem) : Option Mem :=
    F_X3_append_L3 FU v0 v1 v3 (0 : Int32) S
set_option maxRecDepth 100000 in
theorem T_X3_append {g : GG} {l : Launch} (hl : l.stackTraces = false) {v0 : Nat} {v1 : Int64} {v3 : Int32} {S S' : Mem} (h : F_X3_append v0 v1 v3 S = some S') : Call g l uX3_append [.ref v0, .long v1, .int v3] S cvV S' := by
  refine call_of (by decide +kernel) hl rfl (Nat.le_of_ble_eq_true rfl) ?_
  show Run g l uX3_append _ 0 [(0, .ref v0), (1, .long v1), (3, .int v3)] [] 0 0 S
  unfold F_X3_append at h
  refine r_iconst (v := (0 : Int32)) dX3_append_0 (by decide) ?_
  refine r_istore (lv' := [(4, .int ((0 : Int32))), (0, .ref v0), (1, .long v1), (3, .int v3)]) dX3_append_1 (by decide) rfl ?_
  refine r_sub [1, 2, 3, 0] rfl ?_
  exact T_X3_append_L3 hl FU v0 v1 v3 (0 : Int32) S h

def F_X3_covers (v0 : Nat) (v1 : Int32) (v2 : Int32) (S : Mem) : Option (Int32 × Mem) :=
    if v1 < (1 : Int32) then
      some ((0 : Int32), S)
    else
      (pgI 3 1 S v0).bind fun t2 =>
      if ((t2 - v2) + (1 : Int32)) < v1 then
        some ((0 : Int32), S)
      else
        some ((1 : Int32), S)
set_option maxRecDepth 100000 in
theorem T_X3_covers {g : GG} {l : Launch} (hl : l.stackTraces = false) {v0 : Nat} {v1 : Int32} {v2 : Int32} {S S' : Mem} {r : Int32} (h : F_X3_covers v0 v1 v2 S = some (r, S')) : Call g l uX3_covers [.ref v0, .int v1, .int v2] S (cvI r) S' := by
  refine call_of (by decide +kernel) hl rfl (Nat.le_of_ble_eq_true rfl) ?_
  show Run g l uX3_covers _ 0 [(0, .ref v0), (1, .int v1), (2, .int v2)] [] 0 0 S
  unfold F_X3_covers at h
  refine r_iload_n dX3_covers_0 rfl 1 rfl ?_
  refine r_iconst (v := (1 : Int32)) dX3_covers_1 (by decide) ?_
  refine r_icmp_lt (tgt := 21) dX3_covers_2 (by decide) (fun c1 => ?_) (fun c1 => ?_)
  · rw [if_pos c1] at h
    refine r_iconst (v := (0 : Int32)) dX3_covers_21 (by decide) ?_
    cases h
    exact r_ireturn dX3_covers_22 rfl (by decide) (by decide) (by decide)
  · rw [if_neg c1] at h
    refine r_iload_n dX3_covers_5 rfl 1 rfl ?_
    refine r_aload_n dX3_covers_6 rfl 0 rfl ?_
    obtain ⟨t2, h0, h⟩ := bd h
    refine q_getI h0 dX3_covers_7 fl3_15 rfl ?_
    refine r_iload_n dX3_covers_10 rfl 2 rfl ?_
    refine r_isub dX3_covers_11 ?_
    refine r_iconst (v := (1 : Int32)) dX3_covers_12 (by decide) ?_
    refine r_iadd dX3_covers_13 ?_
    refine r_icmp_gt (tgt := 21) dX3_covers_14 (by decide) (fun c3 => ?_) (fun c3 => ?_)
    · rw [if_pos c3] at h
      refine r_iconst (v := (0 : Int32)) dX3_covers_21 (by decide) ?_
      cases h
      exact r_ireturn dX3_covers_22 rfl (by decide) (by decide) (by decide)
    · rw [if_neg c3] at h
      refine r_iconst (v := (1 : Int32)) dX3_covers_17 (by decide) ?_
      refine r_goto (tgt := 22) dX3_covers_18 (by decide) ?_
      cases h
      exact r_ireturn dX3_covers_22 rfl (by decide) (by decide) (by decide)

def F_X3_packed_L5 : Nat → Nat → Int32 → Int32 → Int32 → Int32 → Mem → Option (Int32 × Mem)
  | 0, _, _, _, _, _, _ => none
  | fu + 1, v0, v1, v2, v3, v4, S =>
    if v2 ≤ v4 then
      some (v3, S)
    else
      (pgR 3 0 S v0).bind fun t2 =>
      (paI S t2 ((v1 - (1 : Int32)) + v4)).bind fun t3 =>
      F_X3_packed_L5 fu v0 v1 v2 ((v3 <<< ((2 : Int32) &&& 31)) ||| t3) (v4 + 1) S
set_option maxRecDepth 100000 in
theorem T_X3_packed_L5 {g : GG} {l : Launch} (hl : l.stackTraces = false) {S' : Mem} {r : Int32}  : ∀ (fu : Nat) (v0 : Nat) (v1 : Int32) (v2 : Int32) (v3 : Int32) (v4 : Int32) (S : Mem), F_X3_packed_L5 fu v0 v1 v2 v3 v4 S = some (r, S') → Run g l uX3_packed (fin g uX3_packed (cvI r) S') 5 [(0, .ref v0), (1, .int v1), (2, .int v2), (3, .int v3), (4, .int v4)] [] 0 0 S := by
  intro fu
  induction fu with
  | zero =>
    intro v0 v1 v2 v3 v4 S h
    cases (show none = some _ from h)
  | succ fu ih =>
    intro v0 v1 v2 v3 v4 S h
    unfold F_X3_packed_L5 at h
    refine r_iload dX3_packed_5 4 rfl ?_
    refine r_iload_n dX3_packed_7 rfl 2 rfl ?_
    refine r_icmp_ge (tgt := 33) dX3_packed_8 (by decide) (fun c1 => ?_) (fun c1 => ?_)
    · rw [if_pos c1] at h
      refine r_iload_n dX3_packed_33 rfl 3 rfl ?_
      cases h
      exact r_ireturn dX3_packed_34 rfl rfl (by decide) (by decide)
    · rw [if_neg c1] at h
      refine r_iload_n dX3_packed_11 rfl 3 rfl ?_
      refine r_iconst (v := (2 : Int32)) dX3_packed_12 (by decide) ?_
      refine r_ishl dX3_packed_13 ?_
      refine r_aload_n dX3_packed_14 rfl 0 rfl ?_
      obtain ⟨t2, h0, h⟩ := bd h
      refine q_getR h0 dX3_packed_15 fl3_9 rfl ?_
      refine r_iload_n dX3_packed_18 rfl 1 rfl ?_
      refine r_iconst (v := (1 : Int32)) dX3_packed_19 (by decide) ?_
      refine r_isub dX3_packed_20 ?_
      refine r_iload dX3_packed_21 4 rfl ?_
      refine r_iadd dX3_packed_23 ?_
      obtain ⟨t3, h0, h⟩ := bd h
      refine q_iaload h0 dX3_packed_24 ?_
      refine r_ior dX3_packed_25 ?_
      refine r_istore_n (lv' := [(3, .int ((v3 <<< ((2 : Int32) &&& 31)) ||| t3)), (0, .ref v0), (1, .int v1), (2, .int v2), (4, .int v4)]) dX3_packed_26 rfl (by decide) rfl ?_
      refine r_iinc (v := v4 + 1) (lv' := [(4, .int (v4 + 1)), (3, .int ((v3 <<< ((2 : Int32) &&& 31)) ||| t3)), (0, .ref v0), (1, .int v1), (2, .int v2)]) dX3_packed_27 4 rfl rfl (by decide) rfl ?_
      refine r_goto (tgt := 5) dX3_packed_30 (by decide) ?_
      refine r_sub [2, 3, 4, 1, 0] rfl ?_
      exact ih v0 v1 v2 ((v3 <<< ((2 : Int32) &&& 31)) ||| t3) (v4 + 1) S h

def F_X3_packed (v0 : Nat) (v1 : Int32) (v2 : Int32) (S : Mem) : Option (Int32 × Mem) :=
    F_X3_packed_L5 FU v0 v1 v2 (0 : Int32) (0 : Int32) S
set_option maxRecDepth 100000 in
theorem T_X3_packed {g : GG} {l : Launch} (hl : l.stackTraces = false) {v0 : Nat} {v1 : Int32} {v2 : Int32} {S S' : Mem} {r : Int32} (h : F_X3_packed v0 v1 v2 S = some (r, S')) : Call g l uX3_packed [.ref v0, .int v1, .int v2] S (cvI r) S' := by
  refine call_of (by decide +kernel) hl rfl (Nat.le_of_ble_eq_true rfl) ?_
  show Run g l uX3_packed _ 0 [(0, .ref v0), (1, .int v1), (2, .int v2)] [] 0 0 S
  unfold F_X3_packed at h
  refine r_iconst (v := (0 : Int32)) dX3_packed_0 (by decide) ?_
  refine r_istore_n (lv' := [(3, .int ((0 : Int32))), (0, .ref v0), (1, .int v1), (2, .int v2)]) dX3_packed_1 rfl (by decide) rfl ?_
  refine r_iconst (v := (0 : Int32)) dX3_packed_2 (by decide) ?_
  refine r_istore (lv' := [(4, .int ((0 : Int32))), (3, .int ((0 : Int32))), (0, .ref v0), (1, .int v1), (2, .int v2)]) dX3_packed_3 (by decide) rfl ?_
  refine r_sub [2, 3, 4, 1, 0] rfl ?_
  exact T_X3_packed_L5 hl FU v0 v1 v2 (0 : Int32) (0 : Int32) S h

def F_X4_trimEnd_L27 : Nat → Nat → Nat → Int32 → Mem → Option (Int32 × Mem)
  | 0, _, _, _, _ => none
  | fu + 1, v0, v1, v2, S =>
    (pgI 4 2 S v0).bind fun t1 =>
    if t1 ≤ v2 then
      (pk 4 S v0).bind fun _ =>
      bd2 (F_X4_shortest v0 S) fun t4 S5 =>
      if t4 = 0 then
        (pgI 4 0 S5 v0).bind fun t7 =>
        (ppI 4 0 S5 v0 (t7 - (1 : Int32))).bind fun S8 =>
        (pgI 4 0 S8 v0).bind fun t9 =>
        (pk 3 S8 v1).bind fun _ =>
        bd2 (F_X3_packed v1 t9 (1 : Int32) S8) fun t11 S12 =>
        (pk 4 S12 v0).bind fun _ =>
        (F_X4_putInFront v0 t11 S12).bind fun S15 =>
        some ((1 : Int32), S15)
      else
        some ((1 : Int32), S5)
    else
      (pgR 4 3 S v0).bind fun t16 =>
      (pgR 4 3 S v0).bind fun t17 =>
      (paI S t17 v2).bind fun t18 =>
      (psI S t16 v2 (t18 >>> ((2 : Int32) &&& 31))).bind fun S19 =>
      (pgR 4 4 S19 v0).bind fun t20 =>
      (paI S19 t20 v2).bind fun t21 =>
      (psI S19 t20 v2 (t21 - (1 : Int32))).bind fun S22 =>
      F_X4_trimEnd_L27 fu v0 v1 (v2 + 1) S22
set_option maxRecDepth 100000 in
theorem T_X4_trimEnd_L27 {g : GG} {l : Launch} (hl : l.stackTraces = false) {S' : Mem} {r : Int32}  : ∀ (fu : Nat) (v0 : Nat) (v1 : Nat) (v2 : Int32) (S : Mem), F_X4_trimEnd_L27 fu v0 v1 v2 S = some (r, S') → Run g l uX4_trimEnd (fin g uX4_trimEnd (cvI r) S') 27 [(0, .ref v0), (1, .ref v1), (2, .int v2)] [] 0 0 S := by
  intro fu
  induction fu with
  | zero =>
    intro v0 v1 v2 S h
    cases (show none = some _ from h)
  | succ fu ih =>
    intro v0 v1 v2 S h
    unfold F_X4_trimEnd_L27 at h
    refine r_iload_n dX4_trimEnd_27 rfl 2 rfl ?_
    refine r_aload_n dX4_trimEnd_28 rfl 0 rfl ?_
    obtain ⟨t1, h0, h⟩ := bd h
    refine q_getI h0 dX4_trimEnd_29 fl4_38 rfl ?_
    refine r_icmp_ge (tgt := 65) dX4_trimEnd_32 (by decide) (fun c2 => ?_) (fun c2 => ?_)
    · rw [if_pos c2] at h
      refine r_aload_n dX4_trimEnd_65 rfl 0 rfl ?_
      obtain ⟨z3, hk, h⟩ := bd h
      obtain ⟨t4, S5, h0, h⟩ := bd2_s h
      refine r_invV (As := []) (st := []) dX4_trimEnd_66 lv4_70 (by unfold RM; decide) (Nat.le_of_ble_eq_true rfl) rfl rfl (pk_ok hk) (T_X4_shortest hl h0) ?_
      refine r_if_ne (tgt := 95) dX4_trimEnd_69 (by decide) (fun c6 => ?_) (fun c6 => ?_)
      · rw [if_neg c6] at h
        refine r_iconst (v := (1 : Int32)) dX4_trimEnd_95 (by decide) ?_
        cases h
        exact r_ireturn dX4_trimEnd_96 rfl (by decide) (by decide) (by decide)
      · rw [if_pos c6] at h
        refine r_aload_n dX4_trimEnd_72 rfl 0 rfl ?_
        refine r_dup dX4_trimEnd_73 rfl ?_
        obtain ⟨t7, h0, h⟩ := bd h
        refine q_getI h0 dX4_trimEnd_74 fl4_31 rfl ?_
        refine r_iconst (v := (1 : Int32)) dX4_trimEnd_77 (by decide) ?_
        refine r_isub dX4_trimEnd_78 ?_
        obtain ⟨S8, h0, h⟩ := bd h
        refine q_putI h0 dX4_trimEnd_79 fl4_31 rfl ?_
        refine r_aload_n dX4_trimEnd_82 rfl 0 rfl ?_
        refine r_aload_n dX4_trimEnd_83 rfl 1 rfl ?_
        refine r_aload_n dX4_trimEnd_84 rfl 0 rfl ?_
        obtain ⟨t9, h0, h⟩ := bd h
        refine q_getI h0 dX4_trimEnd_85 fl4_31 rfl ?_
        refine r_iconst (v := (1 : Int32)) dX4_trimEnd_88 (by decide) ?_
        obtain ⟨z10, hk, h⟩ := bd h
        obtain ⟨t11, S12, h0, h⟩ := bd2_s h
        refine r_invV (As := [.int t9, .int ((1 : Int32))]) (st := [.ref v0]) dX4_trimEnd_89 lv4_73 (by unfold RM; decide) (Nat.le_of_ble_eq_true rfl) rfl rfl (pk_ok hk) (T_X3_packed hl h0) ?_
        obtain ⟨z13, hk, h⟩ := bd h
        obtain ⟨S15, h0, h⟩ := bd h
        refine r_invV (As := [.int t11]) (st := []) dX4_trimEnd_92 lv4_78 (by unfold RM; decide) (Nat.le_of_ble_eq_true rfl) rfl rfl (pk_ok hk) (T_X4_putInFront hl h0) ?_
        refine r_iconst (v := (1 : Int32)) dX4_trimEnd_95 (by decide) ?_
        cases h
        exact r_ireturn dX4_trimEnd_96 rfl (by decide) (by decide) (by decide)
    · rw [if_neg c2] at h
      refine r_aload_n dX4_trimEnd_35 rfl 0 rfl ?_
      obtain ⟨t16, h0, h⟩ := bd h
      refine q_getR h0 dX4_trimEnd_36 fl4_9 rfl ?_
      refine r_iload_n dX4_trimEnd_39 rfl 2 rfl ?_
      refine r_aload_n dX4_trimEnd_40 rfl 0 rfl ?_
      obtain ⟨t17, h0, h⟩ := bd h
      refine q_getR h0 dX4_trimEnd_41 fl4_9 rfl ?_
      refine r_iload_n dX4_trimEnd_44 rfl 2 rfl ?_
      obtain ⟨t18, h0, h⟩ := bd h
      refine q_iaload h0 dX4_trimEnd_45 ?_
      refine r_iconst (v := (2 : Int32)) dX4_trimEnd_46 (by decide) ?_
      refine r_ishr dX4_trimEnd_47 ?_
      obtain ⟨S19, h0, h⟩ := bd h
      refine q_iastore h0 dX4_trimEnd_48 ?_
      refine r_aload_n dX4_trimEnd_49 rfl 0 rfl ?_
      obtain ⟨t20, h0, h⟩ := bd h
      refine q_getR h0 dX4_trimEnd_50 fl4_15 rfl ?_
      refine r_iload_n dX4_trimEnd_53 rfl 2 rfl ?_
      refine r_dup2 dX4_trimEnd_54 rfl rfl ?_
      obtain ⟨t21, h0, h⟩ := bd h
      refine q_iaload h0 dX4_trimEnd_55 ?_
      refine r_iconst (v := (1 : Int32)) dX4_trimEnd_56 (by decide) ?_
      refine r_isub dX4_trimEnd_57 ?_
      obtain ⟨S22, h0, h⟩ := bd h
      refine q_iastore h0 dX4_trimEnd_58 ?_
      refine r_iinc (v := v2 + 1) (lv' := [(2, .int (v2 + 1)), (0, .ref v0), (1, .ref v1)]) dX4_trimEnd_59 2 rfl rfl (by decide) rfl ?_
      refine r_goto (tgt := 27) dX4_trimEnd_62 (by decide) ?_
      refine r_sub [1, 2, 0] rfl ?_
      exact ih v0 v1 (v2 + 1) S22 h

def F_X4_trimEnd_J25 (v0 : Nat) (v1 : Nat) (S : Mem) : Option (Int32 × Mem) :=
    F_X4_trimEnd_L27 FU v0 v1 (0 : Int32) S
set_option maxRecDepth 100000 in
theorem T_X4_trimEnd_J25 {g : GG} {l : Launch} (hl : l.stackTraces = false) {S' : Mem} {r : Int32}  : ∀ (v0 : Nat) (v1 : Nat) (S : Mem), F_X4_trimEnd_J25 v0 v1 S = some (r, S') → Run g l uX4_trimEnd (fin g uX4_trimEnd (cvI r) S') 25 [(0, .ref v0), (1, .ref v1)] [] 0 0 S := by
  intro v0 v1 S h
  unfold F_X4_trimEnd_J25 at h
  refine r_iconst (v := (0 : Int32)) dX4_trimEnd_25 (by decide) ?_
  refine r_istore_n (lv' := [(2, .int ((0 : Int32))), (0, .ref v0), (1, .ref v1)]) dX4_trimEnd_26 rfl (by decide) rfl ?_
  refine r_sub [1, 2, 0] rfl ?_
  exact T_X4_trimEnd_L27 hl FU v0 v1 (0 : Int32) S h

def F_X4_trimEnd (v0 : Nat) (v1 : Nat) (S : Mem) : Option (Int32 × Mem) :=
    (pk 4 S v0).bind fun _ =>
    bd2 (F_X4_isLastBaseShared v0 S) fun t24 S25 =>
    if t24 = 0 then
      some ((0 : Int32), S25)
    else
      (pgI 4 0 S25 v0).bind fun t27 =>
      if t27 = (1 : Int32) then
        (pk 4 S25 v0).bind fun _ =>
        bd2 (F_X4_shortest v0 S25) fun t30 S31 =>
        if (2 : Int32) ≤ t30 then
          F_X4_trimEnd_J25 v0 v1 S31
        else
          some ((0 : Int32), S31)
      else
        F_X4_trimEnd_J25 v0 v1 S25
set_option maxRecDepth 100000 in
theorem T_X4_trimEnd {g : GG} {l : Launch} (hl : l.stackTraces = false) {v0 : Nat} {v1 : Nat} {S S' : Mem} {r : Int32} (h : F_X4_trimEnd v0 v1 S = some (r, S')) : Call g l uX4_trimEnd [.ref v0, .ref v1] S (cvI r) S' := by
  refine call_of (by decide +kernel) hl rfl (Nat.le_of_ble_eq_true rfl) ?_
  show Run g l uX4_trimEnd _ 0 [(0, .ref v0), (1, .ref v1)] [] 0 0 S
  unfold F_X4_trimEnd at h
  refine r_aload_n dX4_trimEnd_0 rfl 0 rfl ?_
  obtain ⟨z23, hk, h⟩ := bd h
  obtain ⟨t24, S25, h0, h⟩ := bd2_s h
  refine r_invV (As := []) (st := []) dX4_trimEnd_1 lv4_67 (by unfold RM; decide) (Nat.le_of_ble_eq_true rfl) rfl rfl (pk_ok hk) (T_X4_isLastBaseShared hl h0) ?_
  refine r_if_eq (tgt := 23) dX4_trimEnd_4 (by decide) (fun c26 => ?_) (fun c26 => ?_)
  · rw [if_pos c26] at h
    refine r_iconst (v := (0 : Int32)) dX4_trimEnd_23 (by decide) ?_
    cases h
    exact r_ireturn dX4_trimEnd_24 rfl (by decide) (by decide) (by decide)
  · rw [if_neg c26] at h
    refine r_aload_n dX4_trimEnd_7 rfl 0 rfl ?_
    obtain ⟨t27, h0, h⟩ := bd h
    refine q_getI h0 dX4_trimEnd_8 fl4_31 rfl ?_
    refine r_iconst (v := (1 : Int32)) dX4_trimEnd_11 (by decide) ?_
    refine r_icmp_ne (tgt := 25) dX4_trimEnd_12 (by decide) (fun c28 => ?_) (fun c28 => ?_)
    · rw [if_neg c28] at h
      exact T_X4_trimEnd_J25 hl v0 v1 S25 h
    · rw [if_pos c28] at h
      refine r_aload_n dX4_trimEnd_15 rfl 0 rfl ?_
      obtain ⟨z29, hk, h⟩ := bd h
      obtain ⟨t30, S31, h0, h⟩ := bd2_s h
      refine r_invV (As := []) (st := []) dX4_trimEnd_16 lv4_70 (by unfold RM; decide) (Nat.le_of_ble_eq_true rfl) rfl rfl (pk_ok hk) (T_X4_shortest hl h0) ?_
      refine r_iconst (v := (2 : Int32)) dX4_trimEnd_19 (by decide) ?_
      refine r_icmp_ge (tgt := 25) dX4_trimEnd_20 (by decide) (fun c32 => ?_) (fun c32 => ?_)
      · rw [if_pos c32] at h
        exact T_X4_trimEnd_J25 hl v0 v1 S31 h
      · rw [if_neg c32] at h
        refine r_iconst (v := (0 : Int32)) dX4_trimEnd_23 (by decide) ?_
        cases h
        exact r_ireturn dX4_trimEnd_24 rfl (by decide) (by decide) (by decide)

