def F_X0_isSame_L15 : Nat → Nat → Nat → Int32 → Mem → Option (Int32 × Mem)
  | 0, _, _, _, _ => none
  | fu + 1, v0, v1, v2, S =>
    (pgI 0 1 S v0).bind fun t1 =>
    if t1 ≤ v2 then
      some ((1 : Int32), S)
    else
      (pgR 0 0 S v0).bind fun t3 =>
      (paI S t3 v2).bind fun t4 =>
      (pgR 0 0 S v1).bind fun t5 =>
      (paI S t5 v2).bind fun t6 =>
      if t4 = t6 then
        F_X0_isSame_L15 fu v0 v1 (v2 + 1) S
      else
        some ((0 : Int32), S)
set_option maxRecDepth 100000 in
theorem T_X0_isSame_L15 {g : GG} {l : Launch} (hl : l.stackTraces = false) {S' : Mem} {r : Int32}  : ∀ (fu : Nat) (v0 : Nat) (v1 : Nat) (v2 : Int32) (S : Mem), F_X0_isSame_L15 fu v0 v1 v2 S = some (r, S') → Run g l uX0_isSame (fin g uX0_isSame (cvI r) S') 15 [(0, .ref v0), (1, .ref v1), (2, .int v2)] [] 0 0 S := by
  intro fu
  induction fu with
  | zero =>
    intro v0 v1 v2 S h
    cases (show none = some _ from h)
  | succ fu ih =>
    intro v0 v1 v2 S h
    unfold F_X0_isSame_L15 at h
    refine r_iload_n dX0_isSame_15 rfl 2 rfl ?_
    refine r_aload_n dX0_isSame_16 rfl 0 rfl ?_
    obtain ⟨t1, h0, h⟩ := bd h
    refine q_getI h0 dX0_isSame_17 fl0_15 rfl ?_
    refine r_icmp_ge (tgt := 46) dX0_isSame_20 (by decide) (fun c2 => ?_) (fun c2 => ?_)
    · rw [if_pos c2] at h
      refine r_iconst (v := (1 : Int32)) dX0_isSame_46 (by decide) ?_
      cases h
      exact r_ireturn dX0_isSame_47 rfl (by decide) (by decide) (by decide)
    · rw [if_neg c2] at h
      refine r_aload_n dX0_isSame_23 rfl 0 rfl ?_
      obtain ⟨t3, h0, h⟩ := bd h
      refine q_getR h0 dX0_isSame_24 fl0_9 rfl ?_
      refine r_iload_n dX0_isSame_27 rfl 2 rfl ?_
      obtain ⟨t4, h0, h⟩ := bd h
      refine q_iaload h0 dX0_isSame_28 ?_
      refine r_aload_n dX0_isSame_29 rfl 1 rfl ?_
      obtain ⟨t5, h0, h⟩ := bd h
      refine q_getR h0 dX0_isSame_30 fl0_9 rfl ?_
      refine r_iload_n dX0_isSame_33 rfl 2 rfl ?_
      obtain ⟨t6, h0, h⟩ := bd h
      refine q_iaload h0 dX0_isSame_34 ?_
      refine r_icmp_eq (tgt := 40) dX0_isSame_35 (by decide) (fun c7 => ?_) (fun c7 => ?_)
      · rw [if_pos c7] at h
        refine r_iinc (v := v2 + 1) (lv' := [(2, .int (v2 + 1)), (0, .ref v0), (1, .ref v1)]) dX0_isSame_40 2 rfl rfl (by decide) rfl ?_
        refine r_goto (tgt := 15) dX0_isSame_43 (by decide) ?_
        refine r_sub [1, 2, 0] rfl ?_
        exact ih v0 v1 (v2 + 1) S h
      · rw [if_neg c7] at h
        refine r_iconst (v := (0 : Int32)) dX0_isSame_38 (by decide) ?_
        cases h
        exact r_ireturn dX0_isSame_39 rfl (by decide) (by decide) (by decide)

def F_X0_isSame (v0 : Nat) (v1 : Nat) (S : Mem) : Option (Int32 × Mem) :=
    (pgI 0 1 S v0).bind fun t8 =>
    (pgI 0 1 S v1).bind fun t9 =>
    if t8 = t9 then
      F_X0_isSame_L15 FU v0 v1 (0 : Int32) S
    else
      some ((0 : Int32), S)
set_option maxRecDepth 100000 in
theorem T_X0_isSame {g : GG} {l : Launch} (hl : l.stackTraces = false) {v0 : Nat} {v1 : Nat} {S S' : Mem} {r : Int32} (h : F_X0_isSame v0 v1 S = some (r, S')) : Call g l uX0_isSame [.ref v0, .ref v1] S (cvI r) S' := by
  refine call_of (by decide +kernel) hl rfl (Nat.le_of_ble_eq_true rfl) ?_
  show Run g l uX0_isSame _ 0 [(0, .ref v0), (1, .ref v1)] [] 0 0 S
  unfold F_X0_isSame at h
  refine r_aload_n dX0_isSame_0 rfl 0 rfl ?_
  obtain ⟨t8, h0, h⟩ := bd h
  refine q_getI h0 dX0_isSame_1 fl0_15 rfl ?_
  refine r_aload_n dX0_isSame_4 rfl 1 rfl ?_
  obtain ⟨t9, h0, h⟩ := bd h
  refine q_getI h0 dX0_isSame_5 fl0_15 rfl ?_
  refine r_icmp_eq (tgt := 13) dX0_isSame_8 (by decide) (fun c10 => ?_) (fun c10 => ?_)
  · rw [if_pos c10] at h
    refine r_iconst (v := (0 : Int32)) dX0_isSame_13 (by decide) ?_
    refine r_istore_n (lv' := [(2, .int ((0 : Int32))), (0, .ref v0), (1, .ref v1)]) dX0_isSame_14 rfl (by decide) rfl ?_
    refine r_sub [1, 2, 0] rfl ?_
    exact T_X0_isSame_L15 hl FU v0 v1 (0 : Int32) S h
  · rw [if_neg c10] at h
    refine r_iconst (v := (0 : Int32)) dX0_isSame_11 (by decide) ?_
    cases h
    exact r_ireturn dX0_isSame_12 rfl (by decide) (by decide) (by decide)

def F_X5_takeTyped (v0 : Nat) (S : Mem) : Option (Int32 × Mem) :=
    (pgR 5 6 S v0).bind fun t1 =>
    (pgR 5 4 S v0).bind fun t2 =>
    (pgR 5 0 S v0).bind fun t3 =>
    (pk 0 S t1).bind fun _ =>
    bd2 (F_X0_takeVariant t1 t2 t3 S) fun t5 S6 =>
    if t5 = 0 then
      some ((0 : Int32), S6)
    else
      (pgR 5 7 S6 v0).bind fun t8 =>
      (pgR 5 4 S6 v0).bind fun t9 =>
      (pk 0 S6 t8).bind fun _ =>
      (F_X0_putVariant t8 t9 S6).bind fun S12 =>
      (pgR 5 7 S12 v0).bind fun t13 =>
      (pgR 5 6 S12 v0).bind fun t14 =>
      (pk 0 S12 t13).bind fun _ =>
      bd2 (F_X0_isSame t13 t14 S12) fun t16 S17 =>
      rtZ t16 S17
set_option maxRecDepth 100000 in
theorem T_X5_takeTyped {g : GG} {l : Launch} (hl : l.stackTraces = false) {v0 : Nat} {S S' : Mem} {r : Int32} (h : F_X5_takeTyped v0 S = some (r, S')) : Call g l uX5_takeTyped [.ref v0] S (cvI r) S' := by
  refine call_of (by decide +kernel) hl rfl (Nat.le_of_ble_eq_true rfl) ?_
  show Run g l uX5_takeTyped _ 0 [(0, .ref v0)] [] 0 0 S
  unfold F_X5_takeTyped at h
  refine r_aload_n dX5_takeTyped_0 rfl 0 rfl ?_
  obtain ⟨t1, h0, h⟩ := bd h
  refine q_getR h0 dX5_takeTyped_1 fl5_47 rfl ?_
  refine r_aload_n dX5_takeTyped_4 rfl 0 rfl ?_
  obtain ⟨t2, h0, h⟩ := bd h
  refine q_getR h0 dX5_takeTyped_5 fl5_34 rfl ?_
  refine r_aload_n dX5_takeTyped_8 rfl 0 rfl ?_
  obtain ⟨t3, h0, h⟩ := bd h
  refine q_getR h0 dX5_takeTyped_9 fl5_10 rfl ?_
  obtain ⟨z4, hk, h⟩ := bd h
  obtain ⟨t5, S6, h0, h⟩ := bd2_s h
  refine r_invV (As := [.ref t2, .ref t3]) (st := []) dX5_takeTyped_12 lv5_275 (by unfold RM; decide) (Nat.le_of_ble_eq_true rfl) rfl rfl (pk_ok hk) (T_X0_takeVariant hl h0) ?_
  refine r_if_ne (tgt := 20) dX5_takeTyped_15 (by decide) (fun c7 => ?_) (fun c7 => ?_)
  · rw [if_neg c7] at h
    refine r_aload_n dX5_takeTyped_20 rfl 0 rfl ?_
    obtain ⟨t8, h0, h⟩ := bd h
    refine q_getR h0 dX5_takeTyped_21 fl5_51 rfl ?_
    refine r_aload_n dX5_takeTyped_24 rfl 0 rfl ?_
    obtain ⟨t9, h0, h⟩ := bd h
    refine q_getR h0 dX5_takeTyped_25 fl5_34 rfl ?_
    obtain ⟨z10, hk, h⟩ := bd h
    obtain ⟨S12, h0, h⟩ := bd h
    refine r_invV (As := [.ref t9]) (st := []) dX5_takeTyped_28 lv5_222 (by unfold RM; decide) (Nat.le_of_ble_eq_true rfl) rfl rfl (pk_ok hk) (T_X0_putVariant hl h0) ?_
    refine r_aload_n dX5_takeTyped_31 rfl 0 rfl ?_
    obtain ⟨t13, h0, h⟩ := bd h
    refine q_getR h0 dX5_takeTyped_32 fl5_51 rfl ?_
    refine r_aload_n dX5_takeTyped_35 rfl 0 rfl ?_
    obtain ⟨t14, h0, h⟩ := bd h
    refine q_getR h0 dX5_takeTyped_36 fl5_47 rfl ?_
    obtain ⟨z15, hk, h⟩ := bd h
    obtain ⟨t16, S17, h0, h⟩ := bd2_s h
    refine r_invV (As := [.ref t14]) (st := []) dX5_takeTyped_39 lv5_279 (by unfold RM; decide) (Nat.le_of_ble_eq_true rfl) rfl rfl (pk_ok hk) (T_X0_isSame hl h0) ?_
    obtain ⟨hz, hzz⟩ := if_some h
    cases hzz
    exact r_ireturn dX5_takeTyped_42 rfl (narrow_b hz).1 (by decide) (by decide)
  · rw [if_pos c7] at h
    refine r_iconst (v := (0 : Int32)) dX5_takeTyped_18 (by decide) ?_
    cases h
    exact r_ireturn dX5_takeTyped_19 rfl (by decide) (by decide) (by decide)

def F_X5_read_J24 (v0 : Nat) (v1 : Int32) (s0 : Int32) (S : Mem) : Option ((Int32 ⊕ String) × Mem) :=
    (pgR 5 6 S v0).bind fun t1 =>
    (ppI 0 1 S t1 (0 : Int32)).bind fun S2 =>
    if v1 = 0 then
      if s0 = 0 then
        some (.inr "java/lang/IllegalArgumentException", S2)
      else
        (pgR 5 1 S2 v0).bind fun t5 =>
        (pgR 5 4 S2 v0).bind fun t6 =>
        (pk 2 S2 t5).bind fun _ =>
        bd2 (F_X2_insert t5 t6 S2) fun t8 S9 =>
        some (.inl t8, S9)
    else
      some (.inr "java/lang/IllegalStateException", S2)
set_option maxRecDepth 100000 in
theorem T_X5_read_J24 {g : GG} {l : Launch} (hl : l.stackTraces = false) {S' : Mem} {r : Int32 ⊕ String}  : ∀ (v0 : Nat) (v1 : Int32) (s0 : Int32) (S : Mem), F_X5_read_J24 v0 v1 s0 S = some (r, S') → Run g l uX5_read (fin g uX5_read (cxI r) S') 24 [(0, .ref v0), (1, .int v1)] [.int s0] 0 0 S := by
  intro v0 v1 s0 S h
  unfold F_X5_read_J24 at h
  refine r_istore_n (lv' := [(2, .int s0), (0, .ref v0), (1, .int v1)]) dX5_read_24 rfl (by decide) rfl ?_
  refine r_aload_n dX5_read_25 rfl 1 rfl ?_
  obtain ⟨t1, h0, h⟩ := bd h
  refine q_getR h0 dX5_read_26 fl5_47 rfl ?_
  refine r_iconst (v := (0 : Int32)) dX5_read_29 (by decide) ?_
  obtain ⟨S2, h0, h⟩ := bd h
  refine q_putI h0 dX5_read_30 fl5_225 rfl ?_
  refine r_iload_n dX5_read_33 rfl 2 rfl ?_
  refine r_if_eq (tgt := 47) dX5_read_34 (by decide) (fun c3 => ?_) (fun c3 => ?_)
  · rw [if_pos c3] at h
    refine r_iload_n dX5_read_47 rfl 0 rfl ?_
    refine r_if_ne (tgt := 61) dX5_read_48 (by decide) (fun c4 => ?_) (fun c4 => ?_)
    · rw [if_neg c4] at h
      refine r_aload_n dX5_read_61 rfl 1 rfl ?_
      obtain ⟨t5, h0, h⟩ := bd h
      refine q_getR h0 dX5_read_62 fl5_19 rfl ?_
      refine r_aload_n dX5_read_65 rfl 1 rfl ?_
      obtain ⟨t6, h0, h⟩ := bd h
      refine q_getR h0 dX5_read_66 fl5_34 rfl ?_
      obtain ⟨z7, hk, h⟩ := bd h
      obtain ⟨t8, S9, h0, h⟩ := bd2_s h
      refine r_invV (As := [.ref t6]) (st := []) dX5_read_69 lv5_173 (by unfold RM; decide) (Nat.le_of_ble_eq_true rfl) rfl rfl (pk_ok hk) (T_X2_insert hl h0) ?_
      cases h
      exact r_ireturn dX5_read_72 rfl rfl (by decide) (by decide)
    · rw [if_pos c4] at h
      cases h
      exact r_throwS (text := "the bytes are no record on this reference") tw_54_58 rfl (by decide) dX5_read_51 dX5_read_54 dX5_read_55 dX5_read_57 dX5_read_60 rfl rfl (by decide) (Nat.le_of_ble_eq_true rfl) (by decide) (by decide)
  · rw [if_neg c3] at h
    cases h
    exact r_throwS (text := "there are 24 records") tw_65_69 rfl (by decide) dX5_read_37 dX5_read_40 dX5_read_41 dX5_read_43 dX5_read_46 rfl rfl (by decide) (Nat.le_of_ble_eq_true rfl) (by decide) (by decide)

def F_X5_read_J23 (v0 : Nat) (v1 : Int32) (S : Mem) : Option ((Int32 ⊕ String) × Mem) :=
    F_X5_read_J24 v0 v1 (0 : Int32) S
set_option maxRecDepth 100000 in
theorem T_X5_read_J23 {g : GG} {l : Launch} (hl : l.stackTraces = false) {S' : Mem} {r : Int32 ⊕ String}  : ∀ (v0 : Nat) (v1 : Int32) (S : Mem), F_X5_read_J23 v0 v1 S = some (r, S') → Run g l uX5_read (fin g uX5_read (cxI r) S') 23 [(0, .ref v0), (1, .int v1)] [] 0 0 S := by
  intro v0 v1 S h
  unfold F_X5_read_J23 at h
  refine r_iconst (v := (0 : Int32)) dX5_read_23 (by decide) ?_
  exact T_X5_read_J24 hl v0 v1 (0 : Int32) S h

def F_X5_read (v0 : Nat) (S : Mem) : Option ((Int32 ⊕ String) × Mem) :=
    (pgR 5 1 S v0).bind fun t10 =>
    (pk 2 S t10).bind fun _ =>
    bd2 (F_X2_isFull t10 S) fun t12 S13 =>
    if t12 = 0 then
      (pk 5 S13 v0).bind fun _ =>
      bd2 (F_X5_takeTyped v0 S13) fun t16 S17 =>
      if t16 = 0 then
        F_X5_read_J23 v0 t12 S17
      else
        F_X5_read_J24 v0 t12 (1 : Int32) S17
    else
      F_X5_read_J23 v0 t12 S13
set_option maxRecDepth 100000 in
theorem T_X5_read {g : GG} {l : Launch} (hl : l.stackTraces = false) {v0 : Nat} {S S' : Mem} {r : Int32 ⊕ String} (h : F_X5_read v0 S = some (r, S')) : Call g l uX5_read [.ref v0] S (cxI r) S' := by
  refine call_of (by decide +kernel) hl rfl (Nat.le_of_ble_eq_true rfl) ?_
  show Run g l uX5_read _ 0 [(0, .ref v0)] [] 0 0 S
  unfold F_X5_read at h
  refine r_aload_n dX5_read_0 rfl 0 rfl ?_
  obtain ⟨t10, h0, h⟩ := bd h
  refine q_getR h0 dX5_read_1 fl5_19 rfl ?_
  obtain ⟨z11, hk, h⟩ := bd h
  obtain ⟨t12, S13, h0, h⟩ := bd2_s h
  refine r_invV (As := []) (st := []) dX5_read_4 lv5_167 (by unfold RM; decide) (Nat.le_of_ble_eq_true rfl) rfl rfl (pk_ok hk) (T_X2_isFull hl h0) ?_
  refine r_istore_n (lv' := [(1, .int t12), (0, .ref v0)]) dX5_read_7 rfl (by decide) rfl ?_
  refine r_iload_n dX5_read_8 rfl 0 rfl ?_
  refine r_if_ne (tgt := 23) dX5_read_9 (by decide) (fun c14 => ?_) (fun c14 => ?_)
  · rw [if_neg c14] at h
    refine r_sub [1, 0] rfl ?_
    exact T_X5_read_J23 hl v0 t12 S13 h
  · rw [if_pos c14] at h
    refine r_aload_n dX5_read_12 rfl 1 rfl ?_
    obtain ⟨z15, hk, h⟩ := bd h
    obtain ⟨t16, S17, h0, h⟩ := bd2_s h
    refine r_invV (As := []) (st := []) dX5_read_13 lv5_241 (by unfold RM; decide) (Nat.le_of_ble_eq_true rfl) rfl rfl (pk_ok hk) (T_X5_takeTyped hl h0) ?_
    refine r_if_eq (tgt := 23) dX5_read_16 (by decide) (fun c18 => ?_) (fun c18 => ?_)
    · rw [if_pos c18] at h
      refine r_sub [1, 0] rfl ?_
      exact T_X5_read_J23 hl v0 t12 S17 h
    · rw [if_neg c18] at h
      refine r_iconst (v := (1 : Int32)) dX5_read_19 (by decide) ?_
      refine r_goto (tgt := 24) dX5_read_20 (by decide) ?_
      refine r_sub [1, 0] rfl ?_
      exact T_X5_read_J24 hl v0 t12 (1 : Int32) S17 h

def F_X5_records (v0 : Nat) (S : Mem) : Option (Int32 × Mem) :=
    (pgR 5 1 S v0).bind fun t1 =>
    (pgI 2 1 S t1).bind fun t2 =>
    some (t2, S)
set_option maxRecDepth 100000 in
theorem T_X5_records {g : GG} {l : Launch} (hl : l.stackTraces = false) {v0 : Nat} {S S' : Mem} {r : Int32} (h : F_X5_records v0 S = some (r, S')) : Call g l uX5_records [.ref v0] S (cvI r) S' := by
  refine call_of (by decide +kernel) hl rfl (Nat.le_of_ble_eq_true rfl) ?_
  show Run g l uX5_records _ 0 [(0, .ref v0)] [] 0 0 S
  unfold F_X5_records at h
  refine r_aload_n dX5_records_0 rfl 0 rfl ?_
  obtain ⟨t1, h0, h⟩ := bd h
  refine q_getR h0 dX5_records_1 fl5_19 rfl ?_
  obtain ⟨t2, h0, h⟩ := bd h
  refine q_getI h0 dX5_records_4 fl5_61 rfl ?_
  cases h
  exact r_ireturn dX5_records_7 rfl rfl (by decide) (by decide)

def F_X4_lastPlace (v0 : Nat) (S : Mem) : Option (Int32 × Mem) :=
    (pgI 4 0 S v0).bind fun t1 =>
    (pgR 4 4 S v0).bind fun t2 =>
    (paI S t2 (0 : Int32)).bind fun t3 =>
    some ((t1 + t3) - (1 : Int32), S)
set_option maxRecDepth 100000 in
theorem T_X4_lastPlace {g : GG} {l : Launch} (hl : l.stackTraces = false) {v0 : Nat} {S S' : Mem} {r : Int32} (h : F_X4_lastPlace v0 S = some (r, S')) : Call g l uX4_lastPlace [.ref v0] S (cvI r) S' := by
  refine call_of (by decide +kernel) hl rfl (Nat.le_of_ble_eq_true rfl) ?_
  show Run g l uX4_lastPlace _ 0 [(0, .ref v0)] [] 0 0 S
  unfold F_X4_lastPlace at h
  refine r_aload_n dX4_lastPlace_0 rfl 0 rfl ?_
  obtain ⟨t1, h0, h⟩ := bd h
  refine q_getI h0 dX4_lastPlace_1 fl4_31 rfl ?_
  refine r_aload_n dX4_lastPlace_4 rfl 0 rfl ?_
  obtain ⟨t2, h0, h⟩ := bd h
  refine q_getR h0 dX4_lastPlace_5 fl4_15 rfl ?_
  refine r_iconst (v := (0 : Int32)) dX4_lastPlace_8 (by decide) ?_
  obtain ⟨t3, h0, h⟩ := bd h
  refine q_iaload h0 dX4_lastPlace_9 ?_
  refine r_iadd dX4_lastPlace_10 ?_
  refine r_iconst (v := (1 : Int32)) dX4_lastPlace_11 (by decide) ?_
  refine r_isub dX4_lastPlace_12 ?_
  cases h
  exact r_ireturn dX4_lastPlace_13 rfl rfl (by decide) (by decide)

def F_X4_bin (v0 : Nat) (S : Mem) : Option (Int32 × Mem) :=
    (pk 4 S v0).bind fun _ =>
    bd2 (F_X4_lastPlace v0 S) fun t2 S3 =>
    (pgI 4 0 S3 v0).bind fun t4 =>
    if (t4 >>> ((3 : Int32) &&& 31)) = (t2 >>> ((3 : Int32) &&& 31)) then
      (pgI 4 0 S3 v0).bind fun t12 =>
      some ((11 : Int32) + (t12 >>> ((3 : Int32) &&& 31)), S3)
    else
      (pgI 4 0 S3 v0).bind fun t6 =>
      if (t6 >>> ((5 : Int32) &&& 31)) = (t2 >>> ((5 : Int32) &&& 31)) then
        (pgI 4 0 S3 v0).bind fun t11 =>
        some ((3 : Int32) + (t11 >>> ((5 : Int32) &&& 31)), S3)
      else
        (pgI 4 0 S3 v0).bind fun t8 =>
        if (t8 >>> ((7 : Int32) &&& 31)) = (t2 >>> ((7 : Int32) &&& 31)) then
          (pgI 4 0 S3 v0).bind fun t10 =>
          some ((1 : Int32) + (t10 >>> ((7 : Int32) &&& 31)), S3)
        else
          some ((0 : Int32), S3)
set_option maxRecDepth 100000 in
theorem T_X4_bin {g : GG} {l : Launch} (hl : l.stackTraces = false) {v0 : Nat} {S S' : Mem} {r : Int32} (h : F_X4_bin v0 S = some (r, S')) : Call g l uX4_bin [.ref v0] S (cvI r) S' := by
  refine call_of (by decide +kernel) hl rfl (Nat.le_of_ble_eq_true rfl) ?_
  show Run g l uX4_bin _ 0 [(0, .ref v0)] [] 0 0 S
  unfold F_X4_bin at h
  refine r_aload_n dX4_bin_0 rfl 0 rfl ?_
  obtain ⟨z1, hk, h⟩ := bd h
  obtain ⟨t2, S3, h0, h⟩ := bd2_s h
  refine r_invV (As := []) (st := []) dX4_bin_1 lv4_55 (by unfold RM; decide) (Nat.le_of_ble_eq_true rfl) rfl rfl (pk_ok hk) (T_X4_lastPlace hl h0) ?_
  refine r_istore_n (lv' := [(1, .int t2), (0, .ref v0)]) dX4_bin_4 rfl (by decide) rfl ?_
  refine r_aload_n dX4_bin_5 rfl 1 rfl ?_
  obtain ⟨t4, h0, h⟩ := bd h
  refine q_getI h0 dX4_bin_6 fl4_31 rfl ?_
  refine r_iconst (v := (3 : Int32)) dX4_bin_9 (by decide) ?_
  refine r_ishr dX4_bin_10 ?_
  refine r_iload_n dX4_bin_11 rfl 0 rfl ?_
  refine r_iconst (v := (3 : Int32)) dX4_bin_12 (by decide) ?_
  refine r_ishr dX4_bin_13 ?_
  refine r_icmp_ne (tgt := 27) dX4_bin_14 (by decide) (fun c5 => ?_) (fun c5 => ?_)
  · rw [if_neg c5] at h
    refine r_aload_n dX4_bin_27 rfl 1 rfl ?_
    obtain ⟨t6, h0, h⟩ := bd h
    refine q_getI h0 dX4_bin_28 fl4_31 rfl ?_
    refine r_iconst (v := (5 : Int32)) dX4_bin_31 (by decide) ?_
    refine r_ishr dX4_bin_32 ?_
    refine r_iload_n dX4_bin_33 rfl 0 rfl ?_
    refine r_iconst (v := (5 : Int32)) dX4_bin_34 (by decide) ?_
    refine r_ishr dX4_bin_35 ?_
    refine r_icmp_ne (tgt := 48) dX4_bin_36 (by decide) (fun c7 => ?_) (fun c7 => ?_)
    · rw [if_neg c7] at h
      refine r_aload_n dX4_bin_48 rfl 1 rfl ?_
      obtain ⟨t8, h0, h⟩ := bd h
      refine q_getI h0 dX4_bin_49 fl4_31 rfl ?_
      refine r_bipush (v := (7 : Int32)) dX4_bin_52 (by decide) ?_
      refine r_ishr dX4_bin_54 ?_
      refine r_iload_n dX4_bin_55 rfl 0 rfl ?_
      refine r_bipush (v := (7 : Int32)) dX4_bin_56 (by decide) ?_
      refine r_ishr dX4_bin_58 ?_
      refine r_icmp_ne (tgt := 72) dX4_bin_59 (by decide) (fun c9 => ?_) (fun c9 => ?_)
      · rw [if_neg c9] at h
        refine r_iconst (v := (0 : Int32)) dX4_bin_72 (by decide) ?_
        cases h
        exact r_ireturn dX4_bin_73 rfl rfl (by decide) (by decide)
      · rw [if_pos c9] at h
        refine r_iconst (v := (1 : Int32)) dX4_bin_62 (by decide) ?_
        refine r_aload_n dX4_bin_63 rfl 1 rfl ?_
        obtain ⟨t10, h0, h⟩ := bd h
        refine q_getI h0 dX4_bin_64 fl4_31 rfl ?_
        refine r_bipush (v := (7 : Int32)) dX4_bin_67 (by decide) ?_
        refine r_ishr dX4_bin_69 ?_
        refine r_iadd dX4_bin_70 ?_
        cases h
        exact r_ireturn dX4_bin_71 rfl rfl (by decide) (by decide)
    · rw [if_pos c7] at h
      refine r_iconst (v := (3 : Int32)) dX4_bin_39 (by decide) ?_
      refine r_aload_n dX4_bin_40 rfl 1 rfl ?_
      obtain ⟨t11, h0, h⟩ := bd h
      refine q_getI h0 dX4_bin_41 fl4_31 rfl ?_
      refine r_iconst (v := (5 : Int32)) dX4_bin_44 (by decide) ?_
      refine r_ishr dX4_bin_45 ?_
      refine r_iadd dX4_bin_46 ?_
      cases h
      exact r_ireturn dX4_bin_47 rfl rfl (by decide) (by decide)
  · rw [if_pos c5] at h
    refine r_bipush (v := (11 : Int32)) dX4_bin_17 (by decide) ?_
    refine r_aload_n dX4_bin_19 rfl 1 rfl ?_
    obtain ⟨t12, h0, h⟩ := bd h
    refine q_getI h0 dX4_bin_20 fl4_31 rfl ?_
    refine r_iconst (v := (3 : Int32)) dX4_bin_23 (by decide) ?_
    refine r_ishr dX4_bin_24 ?_
    refine r_iadd dX4_bin_25 ?_
    cases h
    exact r_ireturn dX4_bin_26 rfl rfl (by decide) (by decide)

def F_X5_about (v0 : Nat) (v1 : Int32) (v2 : Int32) (S : Mem) : Option ((Int32 ⊕ String) × Mem) :=
    (pk 5 S v0).bind fun _ =>
    bdx (F_X5_requireRecord v0 v1 S) fun _ S3 =>
    (pgR 5 1 S3 v0).bind fun t5 =>
    (pgR 2 0 S3 t5).bind fun t6 =>
    (paR S3 t6 v1).bind fun t7 =>
    if v2 = 0 then
      (pgI 4 0 S3 t7).bind fun t9 =>
      some (.inl t9, S3)
    else
    if v2 = 1 then
      (pgI 4 2 S3 t7).bind fun t11 =>
      some (.inl t11, S3)
    else
    if v2 = 2 then
      (pgR 4 4 S3 t7).bind fun t13 =>
      (paI S3 t13 (0 : Int32)).bind fun t14 =>
      some (.inl t14, S3)
    else
    if v2 = 3 then
      (pgI 4 1 S3 t7).bind fun t16 =>
      some (.inl t16, S3)
    else
    if v2 = 4 then
      (pk 4 S3 t7).bind fun _ =>
      bd2 (F_X4_bin t7 S3) fun t19 S20 =>
      some (.inl t19, S20)
    else
    some (.inr "java/lang/IllegalArgumentException", S3)
set_option maxRecDepth 100000 in
theorem T_X5_about {g : GG} {l : Launch} (hl : l.stackTraces = false) {v0 : Nat} {v1 : Int32} {v2 : Int32} {S S' : Mem} {r : Int32 ⊕ String} (h : F_X5_about v0 v1 v2 S = some (r, S')) : Call g l uX5_about [.ref v0, .int v1, .int v2] S (cxI r) S' := by
  refine call_of (by decide +kernel) hl rfl (Nat.le_of_ble_eq_true rfl) ?_
  show Run g l uX5_about _ 0 [(0, .ref v0), (1, .int v1), (2, .int v2)] [] 0 0 S
  unfold F_X5_about at h
  refine r_aload_n dX5_about_0 rfl 0 rfl ?_
  refine r_iload_n dX5_about_1 rfl 1 rfl ?_
  obtain ⟨z1, hk, h⟩ := bd h
  rcases bdx_s h with ⟨t2, S3, h0, h⟩ | ⟨e4, h0, rfl⟩
  · refine r_invV (As := [.int v1]) (st := []) dX5_about_2 lv5_177 (by unfold RM; decide) (Nat.le_of_ble_eq_true rfl) rfl rfl (pk_ok hk) (T_X5_requireRecord hl h0) ?_
    refine r_aload_n dX5_about_5 rfl 0 rfl ?_
    obtain ⟨t5, h0, h⟩ := bd h
    refine q_getR h0 dX5_about_6 fl5_19 rfl ?_
    obtain ⟨t6, h0, h⟩ := bd h
    refine q_getR h0 dX5_about_9 fl5_184 rfl ?_
    refine r_iload_n dX5_about_12 rfl 1 rfl ?_
    obtain ⟨t7, h0, h⟩ := bd h
    refine q_aaload h0 dX5_about_13 ?_
    refine r_astore_n (lv' := [(3, .ref t7), (0, .ref v0), (1, .int v1), (2, .int v2)]) dX5_about_14 rfl (by decide) rfl ?_
    refine r_iload_n dX5_about_15 rfl 3 rfl ?_
    by_cases c8 : v2 = 0
    · rw [if_pos c8] at h
      refine r_tsIn (j := 0) (tgt := 52) dX5_about_16 (by decide) (by decide) (by rw [c8]; rfl) rfl (by decide) ?_
      refine r_aload_n dX5_about_52 rfl 0 rfl ?_
      obtain ⟨t9, h0, h⟩ := bd h
      refine q_getI h0 dX5_about_53 fl5_90 rfl ?_
      cases h
      exact r_ireturn dX5_about_56 rfl rfl (by decide) (by decide)
    rw [if_neg c8] at h
    by_cases c10 : v2 = 1
    · rw [if_pos c10] at h
      refine r_tsIn (j := 1) (tgt := 57) dX5_about_16 (by decide) (by decide) (by rw [c10]; rfl) rfl (by decide) ?_
      refine r_aload_n dX5_about_57 rfl 0 rfl ?_
      obtain ⟨t11, h0, h⟩ := bd h
      refine q_getI h0 dX5_about_58 fl5_105 rfl ?_
      cases h
      exact r_ireturn dX5_about_61 rfl rfl (by decide) (by decide)
    rw [if_neg c10] at h
    by_cases c12 : v2 = 2
    · rw [if_pos c12] at h
      refine r_tsIn (j := 2) (tgt := 62) dX5_about_16 (by decide) (by decide) (by rw [c12]; rfl) rfl (by decide) ?_
      refine r_aload_n dX5_about_62 rfl 0 rfl ?_
      obtain ⟨t13, h0, h⟩ := bd h
      refine q_getR h0 dX5_about_63 fl5_246 rfl ?_
      refine r_iconst (v := (0 : Int32)) dX5_about_66 (by decide) ?_
      obtain ⟨t14, h0, h⟩ := bd h
      refine q_iaload h0 dX5_about_67 ?_
      cases h
      exact r_ireturn dX5_about_68 rfl rfl (by decide) (by decide)
    rw [if_neg c12] at h
    by_cases c15 : v2 = 3
    · rw [if_pos c15] at h
      refine r_tsIn (j := 3) (tgt := 69) dX5_about_16 (by decide) (by decide) (by rw [c15]; rfl) rfl (by decide) ?_
      refine r_aload_n dX5_about_69 rfl 0 rfl ?_
      obtain ⟨t16, h0, h⟩ := bd h
      refine q_getI h0 dX5_about_70 fl5_134 rfl ?_
      cases h
      exact r_ireturn dX5_about_73 rfl rfl (by decide) (by decide)
    rw [if_neg c15] at h
    by_cases c17 : v2 = 4
    · rw [if_pos c17] at h
      refine r_tsIn (j := 4) (tgt := 74) dX5_about_16 (by decide) (by decide) (by rw [c17]; rfl) rfl (by decide) ?_
      refine r_aload_n dX5_about_74 rfl 0 rfl ?_
      obtain ⟨z18, hk, h⟩ := bd h
      obtain ⟨t19, S20, h0, h⟩ := bd2_s h
      refine r_invV (As := []) (st := []) dX5_about_75 lv5_249 (by unfold RM; decide) (Nat.le_of_ble_eq_true rfl) rfl rfl (pk_ok hk) (T_X4_bin hl h0) ?_
      cases h
      exact r_ireturn dX5_about_78 rfl rfl (by decide) (by decide)
    rw [if_neg c17] at h
    have nc8 := ne_toInt c8
    have nc10 := ne_toInt c10
    have nc12 := ne_toInt c12
    have nc15 := ne_toInt c15
    have nc17 := ne_toInt c17
    have ec8 : (0 : Int32).toInt = 0 := by decide
    have ec10 : (1 : Int32).toInt = 1 := by decide
    have ec12 : (2 : Int32).toInt = 2 := by decide
    have ec15 : (3 : Int32).toInt = 3 := by decide
    have ec17 : (4 : Int32).toInt = 4 := by decide
    refine r_tsOut (tgt := 79) dX5_about_16 (by omega) (by decide) ?_
    cases h
    exact r_throwS (text := "no such what") tw_54_58 rfl (by decide) dX5_about_79 dX5_about_82 dX5_about_83 dX5_about_85 dX5_about_88 rfl rfl (by decide) (Nat.le_of_ble_eq_true rfl) (by decide) (by decide)
  · exact r_invV_x (As := [.int v1]) (st := []) dX5_about_2 lv5_177 (by unfold RM; decide) (Nat.le_of_ble_eq_true rfl) rfl rfl (pk_ok hk) rfl rfl (T_X5_requireRecord hl h0)

def F_X5_base (v0 : Nat) (v1 : Int32) (v2 : Int32) (v3 : Int32) (S : Mem) : Option ((Int32 ⊕ String) × Mem) :=
    (pk 5 S v0).bind fun _ =>
    bdx (F_X5_requireRecord v0 v1 S) fun _ S3 =>
    (pgR 5 1 S3 v0).bind fun t5 =>
    (pgR 2 0 S3 t5).bind fun t6 =>
    (paR S3 t6 v1).bind fun t7 =>
    (pk 4 S3 t7).bind fun _ =>
    bd2 (F_X4_hasAllele t7 v2 S3) fun t9 S10 =>
    if t9 = 0 then
      some (.inr "java/lang/IllegalArgumentException", S10)
    else
      (pgR 4 4 S10 t7).bind fun t12 =>
      (paI S10 t12 v2).bind fun t13 =>
      if v3 < (-1 : Int32) then
        some (.inr "java/lang/IndexOutOfBoundsException", S10)
      else
        if v3 < t13 then
          if v3 = (-1 : Int32) then
            some (.inl t13, S10)
          else
            (pgR 4 3 S10 t7).bind fun t17 =>
            (paI S10 t17 v2).bind fun t18 =>
            bd2 (F_X5_baseOf t18.toInt64 t13 v3 S10) fun t19 S20 =>
            some (.inl t19, S20)
        else
          some (.inr "java/lang/IndexOutOfBoundsException", S10)
set_option maxRecDepth 100000 in
theorem T_X5_base {g : GG} {l : Launch} (hl : l.stackTraces = false) {v0 : Nat} {v1 : Int32} {v2 : Int32} {v3 : Int32} {S S' : Mem} {r : Int32 ⊕ String} (h : F_X5_base v0 v1 v2 v3 S = some (r, S')) : Call g l uX5_base [.ref v0, .int v1, .int v2, .int v3] S (cxI r) S' := by
  refine call_of (by decide +kernel) hl rfl (Nat.le_of_ble_eq_true rfl) ?_
  show Run g l uX5_base _ 0 [(0, .ref v0), (1, .int v1), (2, .int v2), (3, .int v3)] [] 0 0 S
  unfold F_X5_base at h
  refine r_aload_n dX5_base_0 rfl 0 rfl ?_
  refine r_iload_n dX5_base_1 rfl 1 rfl ?_
  obtain ⟨z1, hk, h⟩ := bd h
  rcases bdx_s h with ⟨t2, S3, h0, h⟩ | ⟨e4, h0, rfl⟩
  · refine r_invV (As := [.int v1]) (st := []) dX5_base_2 lv5_177 (by unfold RM; decide) (Nat.le_of_ble_eq_true rfl) rfl rfl (pk_ok hk) (T_X5_requireRecord hl h0) ?_
    refine r_aload_n dX5_base_5 rfl 0 rfl ?_
    obtain ⟨t5, h0, h⟩ := bd h
    refine q_getR h0 dX5_base_6 fl5_19 rfl ?_
    obtain ⟨t6, h0, h⟩ := bd h
    refine q_getR h0 dX5_base_9 fl5_184 rfl ?_
    refine r_iload_n dX5_base_12 rfl 1 rfl ?_
    obtain ⟨t7, h0, h⟩ := bd h
    refine q_aaload h0 dX5_base_13 ?_
    refine r_astore (lv' := [(4, .ref t7), (0, .ref v0), (1, .int v1), (2, .int v2), (3, .int v3)]) dX5_base_14 (by decide) rfl ?_
    refine r_aload dX5_base_16 0 rfl ?_
    refine r_iload_n dX5_base_18 rfl 3 rfl ?_
    obtain ⟨z8, hk, h⟩ := bd h
    obtain ⟨t9, S10, h0, h⟩ := bd2_s h
    refine r_invV (As := [.int v2]) (st := []) dX5_base_19 lv5_119 (by unfold RM; decide) (Nat.le_of_ble_eq_true rfl) rfl rfl (pk_ok hk) (T_X4_hasAllele hl h0) ?_
    refine r_if_ne (tgt := 35) dX5_base_22 (by decide) (fun c11 => ?_) (fun c11 => ?_)
    · rw [if_neg c11] at h
      refine r_aload dX5_base_35 0 rfl ?_
      obtain ⟨t12, h0, h⟩ := bd h
      refine q_getR h0 dX5_base_37 fl5_246 rfl ?_
      refine r_iload_n dX5_base_40 rfl 3 rfl ?_
      obtain ⟨t13, h0, h⟩ := bd h
      refine q_iaload h0 dX5_base_41 ?_
      refine r_istore (lv' := [(5, .int t13), (4, .ref t7), (0, .ref v0), (1, .int v1), (2, .int v2), (3, .int v3)]) dX5_base_42 (by decide) rfl ?_
      refine r_iload_n dX5_base_44 rfl 5 rfl ?_
      refine r_iconst (v := (-1 : Int32)) dX5_base_45 (by decide) ?_
      refine r_icmp_lt (tgt := 55) dX5_base_46 (by decide) (fun c14 => ?_) (fun c14 => ?_)
      · rw [if_pos c14] at h
        cases h
        exact r_throwS (text := "no such base") tw_228_232 rfl (by decide) dX5_base_55 dX5_base_58 dX5_base_59 dX5_base_61 dX5_base_64 rfl rfl (by decide) (Nat.le_of_ble_eq_true rfl) (by decide) (by decide)
      · rw [if_neg c14] at h
        refine r_iload_n dX5_base_49 rfl 5 rfl ?_
        refine r_iload dX5_base_50 0 rfl ?_
        refine r_icmp_lt (tgt := 65) dX5_base_52 (by decide) (fun c15 => ?_) (fun c15 => ?_)
        · rw [if_pos c15] at h
          refine r_iload_n dX5_base_65 rfl 5 rfl ?_
          refine r_iconst (v := (-1 : Int32)) dX5_base_66 (by decide) ?_
          refine r_icmp_ne (tgt := 75) dX5_base_67 (by decide) (fun c16 => ?_) (fun c16 => ?_)
          · rw [if_neg c16] at h
            refine r_aload dX5_base_75 1 rfl ?_
            obtain ⟨t17, h0, h⟩ := bd h
            refine q_getR h0 dX5_base_77 fl5_256 rfl ?_
            refine r_iload_n dX5_base_80 rfl 4 rfl ?_
            obtain ⟨t18, h0, h⟩ := bd h
            refine q_iaload h0 dX5_base_81 ?_
            refine r_i2l dX5_base_82 ?_
            refine r_iload dX5_base_83 0 rfl ?_
            refine r_iload_n dX5_base_85 rfl 5 rfl ?_
            obtain ⟨t19, S20, h0, h⟩ := bd2_s h
            refine r_invS (As := [.long t18.toInt64, .int t13, .int v3]) (st := []) dX5_base_86 ls5_258 (by unfold RM; decide) (Nat.le_of_ble_eq_true rfl) rfl rfl (T_X5_baseOf hl h0) ?_
            cases h
            exact r_ireturn dX5_base_89 rfl rfl (by decide) (by decide)
          · rw [if_pos c16] at h
            refine r_iload dX5_base_70 0 rfl ?_
            refine r_goto (tgt := 89) dX5_base_72 (by decide) ?_
            cases h
            exact r_ireturn dX5_base_89 rfl rfl (by decide) (by decide)
        · rw [if_neg c15] at h
          cases h
          exact r_throwS (text := "no such base") tw_228_232 rfl (by decide) dX5_base_55 dX5_base_58 dX5_base_59 dX5_base_61 dX5_base_64 rfl rfl (by decide) (Nat.le_of_ble_eq_true rfl) (by decide) (by decide)
    · rw [if_pos c11] at h
      cases h
      exact r_throwS (text := "no such allele") tw_54_58 rfl (by decide) dX5_base_25 dX5_base_28 dX5_base_29 dX5_base_31 dX5_base_34 rfl rfl (by decide) (Nat.le_of_ble_eq_true rfl) (by decide) (by decide)
  · exact r_invV_x (As := [.int v1]) (st := []) dX5_base_2 lv5_177 (by unfold RM; decide) (Nat.le_of_ble_eq_true rfl) rfl rfl (pk_ok hk) rfl rfl (T_X5_requireRecord hl h0)

def F_X5_requireRegion (v0 : Int32) (v1 : Int32) (S : Mem) : Option ((Unit ⊕ String) × Mem) :=
    if v0 < (1 : Int32) then
      some (.inr "java/lang/IllegalArgumentException", S)
    else
      if v1 < v0 then
        some (.inr "java/lang/IllegalArgumentException", S)
      else
        if v1 ≤ (255 : Int32) then
          some (.inl (), S)
        else
          some (.inr "java/lang/IllegalArgumentException", S)
set_option maxRecDepth 100000 in
theorem T_X5_requireRegion {g : GG} {l : Launch} (hl : l.stackTraces = false) {v0 : Int32} {v1 : Int32} {S S' : Mem} {r : Unit ⊕ String} (h : F_X5_requireRegion v0 v1 S = some (r, S')) : Call g l uX5_requireRegion [.int v0, .int v1] S (cxV r) S' := by
  refine call_of (by decide +kernel) hl rfl (Nat.le_of_ble_eq_true rfl) ?_
  show Run g l uX5_requireRegion _ 0 [(0, .int v0), (1, .int v1)] [] 0 0 S
  unfold F_X5_requireRegion at h
  refine r_iload_n dX5_requireRegion_0 rfl 0 rfl ?_
  refine r_iconst (v := (1 : Int32)) dX5_requireRegion_1 (by decide) ?_
  refine r_icmp_lt (tgt := 17) dX5_requireRegion_2 (by decide) (fun c1 => ?_) (fun c1 => ?_)
  · rw [if_pos c1] at h
    cases h
    exact r_throwSW (text := "begin and end are not in order in 1 .. 255") tw_54_58 rfl (by decide) dX5_requireRegion_17 dX5_requireRegion_20 dX5_requireRegion_21 dX5_requireRegion_24 dX5_requireRegion_27 rfl rfl (by decide) (Nat.le_of_ble_eq_true rfl) (by decide) (by decide)
  · rw [if_neg c1] at h
    refine r_iload_n dX5_requireRegion_5 rfl 0 rfl ?_
    refine r_iload_n dX5_requireRegion_6 rfl 1 rfl ?_
    refine r_icmp_gt (tgt := 17) dX5_requireRegion_7 (by decide) (fun c2 => ?_) (fun c2 => ?_)
    · rw [if_pos c2] at h
      cases h
      exact r_throwSW (text := "begin and end are not in order in 1 .. 255") tw_54_58 rfl (by decide) dX5_requireRegion_17 dX5_requireRegion_20 dX5_requireRegion_21 dX5_requireRegion_24 dX5_requireRegion_27 rfl rfl (by decide) (Nat.le_of_ble_eq_true rfl) (by decide) (by decide)
    · rw [if_neg c2] at h
      refine r_iload_n dX5_requireRegion_10 rfl 1 rfl ?_
      refine r_sipush (v := (255 : Int32)) dX5_requireRegion_11 (by decide) ?_
      refine r_icmp_le (tgt := 28) dX5_requireRegion_14 (by decide) (fun c3 => ?_) (fun c3 => ?_)
      · rw [if_pos c3] at h
        cases h
        exact r_return dX5_requireRegion_28 rfl (by decide) (by decide)
      · rw [if_neg c3] at h
        cases h
        exact r_throwSW (text := "begin and end are not in order in 1 .. 255") tw_54_58 rfl (by decide) dX5_requireRegion_17 dX5_requireRegion_20 dX5_requireRegion_21 dX5_requireRegion_24 dX5_requireRegion_27 rfl rfl (by decide) (Nat.le_of_ble_eq_true rfl) (by decide) (by decide)

def F_X4_spansOneOf (v0 : Nat) (v1 : Int32) (v2 : Int32) (S : Mem) : Option (Int32 × Mem) :=
    (pgI 4 0 S v0).bind fun t1 =>
    if v2 < t1 then
      some ((0 : Int32), S)
    else
      (pk 4 S v0).bind fun _ =>
      bd2 (F_X4_lastPlace v0 S) fun t4 S5 =>
      if t4 < v1 then
        some ((0 : Int32), S5)
      else
        some ((1 : Int32), S5)
set_option maxRecDepth 100000 in
theorem T_X4_spansOneOf {g : GG} {l : Launch} (hl : l.stackTraces = false) {v0 : Nat} {v1 : Int32} {v2 : Int32} {S S' : Mem} {r : Int32} (h : F_X4_spansOneOf v0 v1 v2 S = some (r, S')) : Call g l uX4_spansOneOf [.ref v0, .int v1, .int v2] S (cvI r) S' := by
  refine call_of (by decide +kernel) hl rfl (Nat.le_of_ble_eq_true rfl) ?_
  show Run g l uX4_spansOneOf _ 0 [(0, .ref v0), (1, .int v1), (2, .int v2)] [] 0 0 S
  unfold F_X4_spansOneOf at h
  refine r_aload_n dX4_spansOneOf_0 rfl 0 rfl ?_
  obtain ⟨t1, h0, h⟩ := bd h
  refine q_getI h0 dX4_spansOneOf_1 fl4_31 rfl ?_
  refine r_iload_n dX4_spansOneOf_4 rfl 2 rfl ?_
  refine r_icmp_gt (tgt := 20) dX4_spansOneOf_5 (by decide) (fun c2 => ?_) (fun c2 => ?_)
  · rw [if_pos c2] at h
    refine r_iconst (v := (0 : Int32)) dX4_spansOneOf_20 (by decide) ?_
    cases h
    exact r_ireturn dX4_spansOneOf_21 rfl (by decide) (by decide) (by decide)
  · rw [if_neg c2] at h
    refine r_aload_n dX4_spansOneOf_8 rfl 0 rfl ?_
    obtain ⟨z3, hk, h⟩ := bd h
    obtain ⟨t4, S5, h0, h⟩ := bd2_s h
    refine r_invV (As := []) (st := []) dX4_spansOneOf_9 lv4_55 (by unfold RM; decide) (Nat.le_of_ble_eq_true rfl) rfl rfl (pk_ok hk) (T_X4_lastPlace hl h0) ?_
    refine r_iload_n dX4_spansOneOf_12 rfl 1 rfl ?_
    refine r_icmp_lt (tgt := 20) dX4_spansOneOf_13 (by decide) (fun c6 => ?_) (fun c6 => ?_)
    · rw [if_pos c6] at h
      refine r_iconst (v := (0 : Int32)) dX4_spansOneOf_20 (by decide) ?_
      cases h
      exact r_ireturn dX4_spansOneOf_21 rfl (by decide) (by decide) (by decide)
    · rw [if_neg c6] at h
      refine r_iconst (v := (1 : Int32)) dX4_spansOneOf_16 (by decide) ?_
      refine r_goto (tgt := 21) dX4_spansOneOf_17 (by decide) ?_
      cases h
      exact r_ireturn dX4_spansOneOf_21 rfl (by decide) (by decide) (by decide)

def F_X5_found_J43 (K10 : Nat → Int32 → Int32 → Int32 → Int32 → Mem → Option ((Int32 ⊕ String) × Mem)) (v0 : Nat) (v1 : Int32) (v2 : Int32) (v3 : Int32) (v4 : Int32) (S : Mem) : Option ((Int32 ⊕ String) × Mem) :=
    K10 v0 v1 v2 v3 (v4 + 1) S
set_option maxRecDepth 100000 in
theorem T_X5_found_J43 {g : GG} {l : Launch} (hl : l.stackTraces = false) {S' : Mem} {r : Int32 ⊕ String}  {K10 : Nat → Int32 → Int32 → Int32 → Int32 → Mem → Option ((Int32 ⊕ String) × Mem)} (hK10 : ∀ (v0 : Nat) (v1 : Int32) (v2 : Int32) (v3 : Int32) (v4 : Int32) (S : Mem), K10 v0 v1 v2 v3 v4 S = some (r, S') → Run g l uX5_found (fin g uX5_found (cxI r) S') 10 [(0, .ref v0), (1, .int v1), (2, .int v2), (3, .int v3), (4, .int v4)] [] 1 6 S) : ∀ (v0 : Nat) (v1 : Int32) (v2 : Int32) (v3 : Int32) (v4 : Int32) (S : Mem), F_X5_found_J43 K10 v0 v1 v2 v3 v4 S = some (r, S') → Run g l uX5_found (fin g uX5_found (cxI r) S') 43 [(0, .ref v0), (1, .int v1), (2, .int v2), (3, .int v3), (4, .int v4)] [] 1 6 S := by
  intro v0 v1 v2 v3 v4 S h
  unfold F_X5_found_J43 at h
  refine r_iinc (v := v4 + 1) (lv' := [(4, .int (v4 + 1)), (0, .ref v0), (1, .int v1), (2, .int v2), (3, .int v3)]) dX5_found_43 4 rfl rfl (by decide) rfl ?_
  refine r_goto (tgt := 10) dX5_found_46 (by decide) ?_
  refine r_sub [1, 2, 3, 4, 0] rfl ?_
  exact hK10 v0 v1 v2 v3 (v4 + 1) S h

def F_X5_found_L10 : Nat → Nat → Int32 → Int32 → Int32 → Int32 → Mem → Option ((Int32 ⊕ String) × Mem)
  | 0, _, _, _, _, _, _ => none
  | fu + 1, v0, v1, v2, v3, v4, S =>
    (pgR 5 1 S v0).bind fun t1 =>
    (pgI 2 1 S t1).bind fun t2 =>
    if t2 ≤ v4 then
      some (.inl v3, S)
    else
      (pgR 5 1 S v0).bind fun t4 =>
      (pgR 2 0 S t4).bind fun t5 =>
      (paR S t5 v4).bind fun t6 =>
      (pk 4 S t6).bind fun _ =>
      bd2 (F_X4_spansOneOf t6 v1 v2 S) fun t8 S9 =>
      if t8 = 0 then
        F_X5_found_J43 (F_X5_found_L10 fu) v0 v1 v2 v3 v4 S9
      else
        F_X5_found_J43 (F_X5_found_L10 fu) v0 v1 v2 (v3 + 1) v4 S9
set_option maxRecDepth 100000 in
theorem T_X5_found_L10 {g : GG} {l : Launch} (hl : l.stackTraces = false) {S' : Mem} {r : Int32 ⊕ String}  : ∀ (fu : Nat) (v0 : Nat) (v1 : Int32) (v2 : Int32) (v3 : Int32) (v4 : Int32) (S : Mem), F_X5_found_L10 fu v0 v1 v2 v3 v4 S = some (r, S') → Run g l uX5_found (fin g uX5_found (cxI r) S') 10 [(0, .ref v0), (1, .int v1), (2, .int v2), (3, .int v3), (4, .int v4)] [] 1 6 S := by
  intro fu
  induction fu with
  | zero =>
    intro v0 v1 v2 v3 v4 S h
    cases (show none = some _ from h)
  | succ fu ih =>
    intro v0 v1 v2 v3 v4 S h
    unfold F_X5_found_L10 at h
    refine r_iload dX5_found_10 4 rfl ?_
    refine r_aload_n dX5_found_12 rfl 0 rfl ?_
    obtain ⟨t1, h0, h⟩ := bd h
    refine q_getR h0 dX5_found_13 fl5_19 rfl ?_
    obtain ⟨t2, h0, h⟩ := bd h
    refine q_getI h0 dX5_found_16 fl5_61 rfl ?_
    refine r_icmp_ge (tgt := 49) dX5_found_19 (by decide) (fun c3 => ?_) (fun c3 => ?_)
    · rw [if_pos c3] at h
      refine r_iload_n dX5_found_49 rfl 3 rfl ?_
      cases h
      exact r_ireturn dX5_found_50 rfl rfl (by decide) (by decide)
    · rw [if_neg c3] at h
      refine r_aload_n dX5_found_22 rfl 0 rfl ?_
      obtain ⟨t4, h0, h⟩ := bd h
      refine q_getR h0 dX5_found_23 fl5_19 rfl ?_
      obtain ⟨t5, h0, h⟩ := bd h
      refine q_getR h0 dX5_found_26 fl5_184 rfl ?_
      refine r_iload dX5_found_29 4 rfl ?_
      obtain ⟨t6, h0, h⟩ := bd h
      refine q_aaload h0 dX5_found_31 ?_
      refine r_iload_n dX5_found_32 rfl 1 rfl ?_
      refine r_iload_n dX5_found_33 rfl 2 rfl ?_
      obtain ⟨z7, hk, h⟩ := bd h
      obtain ⟨t8, S9, h0, h⟩ := bd2_s h
      refine r_invV (As := [.int v1, .int v2]) (st := []) dX5_found_34 lv5_265 (by unfold RM; decide) (Nat.le_of_ble_eq_true rfl) rfl rfl (pk_ok hk) (T_X4_spansOneOf hl h0) ?_
      refine r_if_eq (tgt := 43) dX5_found_37 (by decide) (fun c10 => ?_) (fun c10 => ?_)
      · rw [if_pos c10] at h
        exact T_X5_found_J43 hl (fun v0 v1 v2 v3 v4 S h => ih v0 v1 v2 v3 v4 S h) v0 v1 v2 v3 v4 S9 h
      · rw [if_neg c10] at h
        refine r_iinc (v := v3 + 1) (lv' := [(3, .int (v3 + 1)), (0, .ref v0), (1, .int v1), (2, .int v2), (4, .int v4)]) dX5_found_40 3 rfl rfl (by decide) rfl ?_
        refine r_sub [1, 2, 3, 0, 4] rfl ?_
        exact T_X5_found_J43 hl (fun v0 v1 v2 v3 v4 S h => ih v0 v1 v2 v3 v4 S h) v0 v1 v2 (v3 + 1) v4 S9 h

def F_X5_found (v0 : Nat) (v1 : Int32) (v2 : Int32) (S : Mem) : Option ((Int32 ⊕ String) × Mem) :=
    bdx (F_X5_requireRegion v1 v2 S) fun _ S12 =>
    F_X5_found_L10 FU v0 v1 v2 (0 : Int32) (0 : Int32) S12
set_option maxRecDepth 100000 in
theorem T_X5_found {g : GG} {l : Launch} (hl : l.stackTraces = false) {v0 : Nat} {v1 : Int32} {v2 : Int32} {S S' : Mem} {r : Int32 ⊕ String} (h : F_X5_found v0 v1 v2 S = some (r, S')) : Call g l uX5_found [.ref v0, .int v1, .int v2] S (cxI r) S' := by
  refine call_of (by decide +kernel) hl rfl (Nat.le_of_ble_eq_true rfl) ?_
  show Run g l uX5_found _ 0 [(0, .ref v0), (1, .int v1), (2, .int v2)] [] 0 0 S
  unfold F_X5_found at h
  refine r_iload_n dX5_found_0 rfl 1 rfl ?_
  refine r_iload_n dX5_found_1 rfl 2 rfl ?_
  rcases bdx_s h with ⟨t11, S12, h0, h⟩ | ⟨e13, h0, rfl⟩
  · refine r_invS (As := [.int v1, .int v2]) (st := []) dX5_found_2 ls5_262 (by unfold RM; decide) (Nat.le_of_ble_eq_true rfl) rfl rfl (T_X5_requireRegion hl h0) ?_
    refine r_iconst (v := (0 : Int32)) dX5_found_5 (by decide) ?_
    refine r_istore_n (lv' := [(3, .int ((0 : Int32))), (0, .ref v0), (1, .int v1), (2, .int v2)]) dX5_found_6 rfl (by decide) rfl ?_
    refine r_iconst (v := (0 : Int32)) dX5_found_7 (by decide) ?_
    refine r_istore (lv' := [(4, .int ((0 : Int32))), (3, .int ((0 : Int32))), (0, .ref v0), (1, .int v1), (2, .int v2)]) dX5_found_8 (by decide) rfl ?_
    refine r_sub [2, 3, 4, 1, 0] rfl ?_
    exact T_X5_found_L10 hl FU v0 v1 v2 (0 : Int32) (0 : Int32) S12 h
  · exact r_invS_x (As := [.int v1, .int v2]) (st := []) dX5_found_2 ls5_262 (by unfold RM; decide) (Nat.le_of_ble_eq_true rfl) rfl rfl rfl rfl (T_X5_requireRegion hl h0)

def F_X5_mean_J69 (K13 : Nat → Int32 → Int32 → Int32 → UInt32 → Int32 → Mem → Option ((UInt32 ⊕ String) × Mem)) (v0 : Nat) (v1 : Int32) (v2 : Int32) (v3 : Int32) (v4 : UInt32) (v5 : Int32) (S : Mem) : Option ((UInt32 ⊕ String) × Mem) :=
    K13 v0 v1 v2 v3 v4 (v5 + 1) S
set_option maxRecDepth 100000 in
theorem T_X5_mean_J69 {g : GG} {l : Launch} (hl : l.stackTraces = false) {S' : Mem} {r : UInt32 ⊕ String}  {K13 : Nat → Int32 → Int32 → Int32 → UInt32 → Int32 → Mem → Option ((UInt32 ⊕ String) × Mem)} (hK13 : ∀ (v0 : Nat) (v1 : Int32) (v2 : Int32) (v3 : Int32) (v4 : UInt32) (v5 : Int32) (S : Mem), K13 v0 v1 v2 v3 v4 v5 S = some (r, S') → Run g l uX5_mean (fin g uX5_mean (cxF r) S') 13 [(0, .ref v0), (1, .int v1), (2, .int v2), (3, .int v3), (4, .float v4), (5, .int v5)] [] 1 6 S) : ∀ (v0 : Nat) (v1 : Int32) (v2 : Int32) (v3 : Int32) (v4 : UInt32) (v5 : Int32) (S : Mem), F_X5_mean_J69 K13 v0 v1 v2 v3 v4 v5 S = some (r, S') → Run g l uX5_mean (fin g uX5_mean (cxF r) S') 69 [(0, .ref v0), (1, .int v1), (2, .int v2), (3, .int v3), (4, .float v4), (5, .int v5)] [] 1 6 S := by
  intro v0 v1 v2 v3 v4 v5 S h
  unfold F_X5_mean_J69 at h
  refine r_iinc (v := v5 + 1) (lv' := [(5, .int (v5 + 1)), (0, .ref v0), (1, .int v1), (2, .int v2), (3, .int v3), (4, .float v4)]) dX5_mean_69 5 rfl rfl (by decide) rfl ?_
  refine r_goto (tgt := 13) dX5_mean_72 (by decide) ?_
  refine r_sub [1, 2, 3, 4, 5, 0] rfl ?_
  exact hK13 v0 v1 v2 v3 v4 (v5 + 1) S h

def F_X5_mean_L13 : Nat → Nat → Int32 → Int32 → Int32 → UInt32 → Int32 → Mem → Option ((UInt32 ⊕ String) × Mem)
  | 0, _, _, _, _, _, _, _ => none
  | fu + 1, v0, v1, v2, v3, v4, v5, S =>
    (pgR 5 1 S v0).bind fun t1 =>
    (pgI 2 1 S t1).bind fun t2 =>
    if t2 ≤ v5 then
      if v3 = 0 then
        some (.inr "java/util/NoSuchElementException", S)
      else
        (pfdiv v4 (FP.i2f v3)).bind fun t5 =>
        some (.inl t5, S)
    else
      (pgR 5 1 S v0).bind fun t6 =>
      (pgR 2 0 S t6).bind fun t7 =>
      (paR S t7 v5).bind fun t8 =>
      (pk 4 S t8).bind fun _ =>
      bd2 (F_X4_spansOneOf t8 v1 v2 S) fun t10 S11 =>
      if t10 = 0 then
        F_X5_mean_J69 (F_X5_mean_L13 fu) v0 v1 v2 v3 v4 v5 S11
      else
        (pgR 5 1 S11 v0).bind fun t13 =>
        (pgR 2 0 S11 t13).bind fun t14 =>
        (paR S11 t14 v5).bind fun t15 =>
        (pgI 4 1 S11 t15).bind fun t16 =>
        (pfmul (FP.i2f t16) (1040187392 : UInt32)).bind fun t17 =>
        (pfadd v4 t17).bind fun t18 =>
        F_X5_mean_J69 (F_X5_mean_L13 fu) v0 v1 v2 (v3 + 1) t18 v5 S11
set_option maxRecDepth 100000 in
theorem T_X5_mean_L13 {g : GG} {l : Launch} (hl : l.stackTraces = false) {S' : Mem} {r : UInt32 ⊕ String}  : ∀ (fu : Nat) (v0 : Nat) (v1 : Int32) (v2 : Int32) (v3 : Int32) (v4 : UInt32) (v5 : Int32) (S : Mem), F_X5_mean_L13 fu v0 v1 v2 v3 v4 v5 S = some (r, S') → Run g l uX5_mean (fin g uX5_mean (cxF r) S') 13 [(0, .ref v0), (1, .int v1), (2, .int v2), (3, .int v3), (4, .float v4), (5, .int v5)] [] 1 6 S := by
  intro fu
  induction fu with
  | zero =>
    intro v0 v1 v2 v3 v4 v5 S h
    cases (show none = some _ from h)
  | succ fu ih =>
    intro v0 v1 v2 v3 v4 v5 S h
    unfold F_X5_mean_L13 at h
    refine r_iload dX5_mean_13 5 rfl ?_
    refine r_aload_n dX5_mean_15 rfl 0 rfl ?_
    obtain ⟨t1, h0, h⟩ := bd h
    refine q_getR h0 dX5_mean_16 fl5_19 rfl ?_
    obtain ⟨t2, h0, h⟩ := bd h
    refine q_getI h0 dX5_mean_19 fl5_61 rfl ?_
    refine r_icmp_ge (tgt := 75) dX5_mean_22 (by decide) (fun c3 => ?_) (fun c3 => ?_)
    · rw [if_pos c3] at h
      refine r_iload_n dX5_mean_75 rfl 3 rfl ?_
      refine r_if_ne (tgt := 90) dX5_mean_76 (by decide) (fun c4 => ?_) (fun c4 => ?_)
      · rw [if_neg c4] at h
        refine r_fload dX5_mean_90 4 rfl ?_
        refine r_iload_n dX5_mean_92 rfl 3 rfl ?_
        refine r_i2f dX5_mean_93 ?_
        obtain ⟨t5, h0, h⟩ := bd h
        refine q_fdiv h0 dX5_mean_94 ?_
        cases h
        exact r_freturn dX5_mean_95 rfl (by decide) (by decide)
      · rw [if_pos c4] at h
        cases h
        exact r_throwNW (text := "there are no such records") tw_208_212 rfl (by decide) dX5_mean_79 dX5_mean_82 dX5_mean_83 dX5_mean_86 dX5_mean_89 rfl rfl (by decide) (Nat.le_of_ble_eq_true rfl) (by decide) (by decide)
    · rw [if_neg c3] at h
      refine r_aload_n dX5_mean_25 rfl 0 rfl ?_
      obtain ⟨t6, h0, h⟩ := bd h
      refine q_getR h0 dX5_mean_26 fl5_19 rfl ?_
      obtain ⟨t7, h0, h⟩ := bd h
      refine q_getR h0 dX5_mean_29 fl5_184 rfl ?_
      refine r_iload dX5_mean_32 5 rfl ?_
      obtain ⟨t8, h0, h⟩ := bd h
      refine q_aaload h0 dX5_mean_34 ?_
      refine r_iload_n dX5_mean_35 rfl 1 rfl ?_
      refine r_iload_n dX5_mean_36 rfl 2 rfl ?_
      obtain ⟨z9, hk, h⟩ := bd h
      obtain ⟨t10, S11, h0, h⟩ := bd2_s h
      refine r_invV (As := [.int v1, .int v2]) (st := []) dX5_mean_37 lv5_265 (by unfold RM; decide) (Nat.le_of_ble_eq_true rfl) rfl rfl (pk_ok hk) (T_X4_spansOneOf hl h0) ?_
      refine r_if_eq (tgt := 69) dX5_mean_40 (by decide) (fun c12 => ?_) (fun c12 => ?_)
      · rw [if_pos c12] at h
        exact T_X5_mean_J69 hl (fun v0 v1 v2 v3 v4 v5 S h => ih v0 v1 v2 v3 v4 v5 S h) v0 v1 v2 v3 v4 v5 S11 h
      · rw [if_neg c12] at h
        refine r_iinc (v := v3 + 1) (lv' := [(3, .int (v3 + 1)), (0, .ref v0), (1, .int v1), (2, .int v2), (4, .float v4), (5, .int v5)]) dX5_mean_43 3 rfl rfl (by decide) rfl ?_
        refine r_fload dX5_mean_46 4 rfl ?_
        refine r_aload_n dX5_mean_48 rfl 1 rfl ?_
        obtain ⟨t13, h0, h⟩ := bd h
        refine q_getR h0 dX5_mean_49 fl5_19 rfl ?_
        obtain ⟨t14, h0, h⟩ := bd h
        refine q_getR h0 dX5_mean_52 fl5_184 rfl ?_
        refine r_iload dX5_mean_55 5 rfl ?_
        obtain ⟨t15, h0, h⟩ := bd h
        refine q_aaload h0 dX5_mean_57 ?_
        obtain ⟨t16, h0, h⟩ := bd h
        refine q_getI h0 dX5_mean_58 fl5_134 rfl ?_
        refine r_i2f dX5_mean_61 ?_
        refine r_ldcfw dX5_mean_62 wf5_268 ?_
        obtain ⟨t17, h0, h⟩ := bd h
        refine q_fmul h0 dX5_mean_65 ?_
        obtain ⟨t18, h0, h⟩ := bd h
        refine q_fadd h0 dX5_mean_66 ?_
        refine r_fstore (lv' := [(4, .float t18), (3, .int (v3 + 1)), (0, .ref v0), (1, .int v1), (2, .int v2), (5, .int v5)]) dX5_mean_67 (by decide) rfl ?_
        refine r_sub [2, 3, 4, 1, 0, 5] rfl ?_
        exact T_X5_mean_J69 hl (fun v0 v1 v2 v3 v4 v5 S h => ih v0 v1 v2 v3 v4 v5 S h) v0 v1 v2 (v3 + 1) t18 v5 S11 h

def F_X5_mean (v0 : Nat) (v1 : Int32) (v2 : Int32) (S : Mem) : Option ((UInt32 ⊕ String) × Mem) :=
    bdx (F_X5_requireRegion v1 v2 S) fun _ S20 =>
    F_X5_mean_L13 FU v0 v1 v2 (0 : Int32) FP.fconst0 (0 : Int32) S20
set_option maxRecDepth 100000 in
theorem T_X5_mean {g : GG} {l : Launch} (hl : l.stackTraces = false) {v0 : Nat} {v1 : Int32} {v2 : Int32} {S S' : Mem} {r : UInt32 ⊕ String} (h : F_X5_mean v0 v1 v2 S = some (r, S')) : Call g l uX5_mean [.ref v0, .int v1, .int v2] S (cxF r) S' := by
  refine call_of (by decide +kernel) hl rfl (Nat.le_of_ble_eq_true rfl) ?_
  show Run g l uX5_mean _ 0 [(0, .ref v0), (1, .int v1), (2, .int v2)] [] 0 0 S
  unfold F_X5_mean at h
  refine r_iload_n dX5_mean_0 rfl 1 rfl ?_
  refine r_iload_n dX5_mean_1 rfl 2 rfl ?_
  rcases bdx_s h with ⟨t19, S20, h0, h⟩ | ⟨e21, h0, rfl⟩
  · refine r_invS (As := [.int v1, .int v2]) (st := []) dX5_mean_2 ls5_262 (by unfold RM; decide) (Nat.le_of_ble_eq_true rfl) rfl rfl (T_X5_requireRegion hl h0) ?_
    refine r_iconst (v := (0 : Int32)) dX5_mean_5 (by decide) ?_
    refine r_istore_n (lv' := [(3, .int ((0 : Int32))), (0, .ref v0), (1, .int v1), (2, .int v2)]) dX5_mean_6 rfl (by decide) rfl ?_
    refine r_fconst0 dX5_mean_7 ?_
    refine r_fstore (lv' := [(4, .float FP.fconst0), (3, .int ((0 : Int32))), (0, .ref v0), (1, .int v1), (2, .int v2)]) dX5_mean_8 (by decide) rfl ?_
    refine r_iconst (v := (0 : Int32)) dX5_mean_10 (by decide) ?_
    refine r_istore (lv' := [(5, .int ((0 : Int32))), (4, .float FP.fconst0), (3, .int ((0 : Int32))), (0, .ref v0), (1, .int v1), (2, .int v2)]) dX5_mean_11 (by decide) rfl ?_
    refine r_sub [3, 4, 5, 2, 1, 0] rfl ?_
    exact T_X5_mean_L13 hl FU v0 v1 v2 (0 : Int32) FP.fconst0 (0 : Int32) S20 h
  · exact r_invS_x (As := [.int v1, .int v2]) (st := []) dX5_mean_2 ls5_262 (by unfold RM; decide) (Nat.le_of_ble_eq_true rfl) rfl rfl rfl rfl (T_X5_requireRegion hl h0)

def F_X6_init (v0 : Nat) (S : Mem) : Option Mem :=
    (ppF 6 1 (nw S 7 162) v0 (mX S)).bind fun S1 =>
    (ppF 6 5 (nw S1 7 1230) v0 (mX S1)).bind fun S2 =>
    (ppF 6 6 (nw S2 7 130) v0 (mX S2)).bind fun S3 =>
    (ppF 6 8 (nw S3 7 130) v0 (mX S3)).bind fun S4 =>
    (ppF 6 10 (nw S4 7 8) v0 (mX S4)).bind fun S5 =>
    some S5
set_option maxRecDepth 100000 in
theorem T_X6_init {g : GG} {l : Launch} (hl : l.stackTraces = false) {v0 : Nat} {S S' : Mem} (h : F_X6_init v0 S = some S') : Call g l uX6_init [.ref v0] S cvV S' := by
  refine call_of (by decide +kernel) hl rfl (Nat.le_of_ble_eq_true rfl) ?_
  show Run g l uX6_init _ 0 [(0, .ref v0)] [] 0 0 S
  unfold F_X6_init at h
  refine r_aload_n dX6_init_0 rfl 0 rfl ?_
  refine r_objInit dX6_init_1 wo6_1 w_obj (by decide) (Nat.le_of_ble_eq_true rfl) ?_
  refine r_aload_n dX6_init_4 rfl 0 rfl ?_
  refine r_sipush (v := (162 : Int32)) dX6_init_5 (by decide) ?_
  refine r_newI (N := 162) dX6_init_8 (by decide) (by decide) (by decide) rfl (by decide) (by decide) ?_
  obtain ⟨S1, h0, h⟩ := bd h
  refine q_putF h0 dX6_init_10 ff6_7 rfl rfl rfl rfl ?_
  refine r_aload_n dX6_init_13 rfl 0 rfl ?_
  refine r_sipush (v := (1230 : Int32)) dX6_init_14 (by decide) ?_
  refine r_newI (N := 1230) dX6_init_17 (by decide) (by decide) (by decide) rfl (by decide) (by decide) ?_
  obtain ⟨S2, h0, h⟩ := bd h
  refine q_putF h0 dX6_init_19 ff6_13 rfl rfl rfl rfl ?_
  refine r_aload_n dX6_init_22 rfl 0 rfl ?_
  refine r_sipush (v := (130 : Int32)) dX6_init_23 (by decide) ?_
  refine r_newI (N := 130) dX6_init_26 (by decide) (by decide) (by decide) rfl (by decide) (by decide) ?_
  obtain ⟨S3, h0, h⟩ := bd h
  refine q_putF h0 dX6_init_28 ff6_16 rfl rfl rfl rfl ?_
  refine r_aload_n dX6_init_31 rfl 0 rfl ?_
  refine r_sipush (v := (130 : Int32)) dX6_init_32 (by decide) ?_
  refine r_newI (N := 130) dX6_init_35 (by decide) (by decide) (by decide) rfl (by decide) (by decide) ?_
  obtain ⟨S4, h0, h⟩ := bd h
  refine q_putF h0 dX6_init_37 ff6_19 rfl rfl rfl rfl ?_
  refine r_aload_n dX6_init_40 rfl 0 rfl ?_
  refine r_bipush (v := (8 : Int32)) dX6_init_41 (by decide) ?_
  refine r_newI (N := 8) dX6_init_43 (by decide) (by decide) (by decide) rfl (by decide) (by decide) ?_
  obtain ⟨S5, h0, h⟩ := bd h
  refine q_putF h0 dX6_init_45 ff6_22 rfl rfl rfl rfl ?_
  cases h
  exact r_return dX6_init_48 rfl (by decide) (by decide)

def F_X6_thrown (v0 : Nat) (S : Mem) : Option (Int32 × Mem) :=
    (pgI 6 0 S v0).bind fun t1 =>
    some (t1, S)
set_option maxRecDepth 100000 in
theorem T_X6_thrown {g : GG} {l : Launch} (hl : l.stackTraces = false) {v0 : Nat} {S S' : Mem} {r : Int32} (h : F_X6_thrown v0 S = some (r, S')) : Call g l uX6_thrown [.ref v0] S (cvI r) S' := by
  refine call_of (by decide +kernel) hl rfl (Nat.le_of_ble_eq_true rfl) ?_
  show Run g l uX6_thrown _ 0 [(0, .ref v0)] [] 0 0 S
  unfold F_X6_thrown at h
  refine r_aload_n dX6_thrown_0 rfl 0 rfl ?_
  obtain ⟨t1, h0, h⟩ := bd h
  refine q_getI h0 dX6_thrown_1 fl6_25 rfl ?_
  cases h
  exact r_ireturn dX6_thrown_4 rfl rfl (by decide) (by decide)

def F_X6_throwing_J18 (v0 : Nat) (s0 : Nat) (s1 : Int32) (S : Mem) : Option (Int32 × Mem) :=
    (ppI 6 0 S s0 s1).bind fun S1 =>
    (pgI 6 0 S1 v0).bind fun t2 =>
    if t2 ≤ 0 then
      some ((0 : Int32), S1)
    else
      some ((1 : Int32), S1)
set_option maxRecDepth 100000 in
theorem T_X6_throwing_J18 {g : GG} {l : Launch} (hl : l.stackTraces = false) {S' : Mem} {r : Int32}  : ∀ (v0 : Nat) (s0 : Nat) (s1 : Int32) (S : Mem), F_X6_throwing_J18 v0 s0 s1 S = some (r, S') → Run g l uX6_throwing (fin g uX6_throwing (cvI r) S') 18 [(0, .ref v0)] [.int s1, .ref s0] 0 0 S := by
  intro v0 s0 s1 S h
  unfold F_X6_throwing_J18 at h
  obtain ⟨S1, h0, h⟩ := bd h
  refine q_putI h0 dX6_throwing_18 fl6_25 rfl ?_
  refine r_aload_n dX6_throwing_21 rfl 0 rfl ?_
  obtain ⟨t2, h0, h⟩ := bd h
  refine q_getI h0 dX6_throwing_22 fl6_25 rfl ?_
  refine r_if_le (tgt := 32) dX6_throwing_25 (by decide) (fun c3 => ?_) (fun c3 => ?_)
  · rw [if_pos c3] at h
    refine r_iconst (v := (0 : Int32)) dX6_throwing_32 (by decide) ?_
    cases h
    exact r_ireturn dX6_throwing_33 rfl (by decide) (by decide) (by decide)
  · rw [if_neg c3] at h
    refine r_iconst (v := (1 : Int32)) dX6_throwing_28 (by decide) ?_
    refine r_goto (tgt := 33) dX6_throwing_29 (by decide) ?_
    cases h
    exact r_ireturn dX6_throwing_33 rfl (by decide) (by decide) (by decide)

def F_X6_throwing (v0 : Nat) (v1 : Int32) (v2 : Int32) (S : Mem) : Option (Int32 × Mem) :=
    if v1 = 0 then
      if v2 = 0 then
        F_X6_throwing_J18 v0 v0 (0 : Int32) S
      else
        F_X6_throwing_J18 v0 v0 (2 : Int32) S
    else
      F_X6_throwing_J18 v0 v0 (1 : Int32) S
set_option maxRecDepth 100000 in
theorem T_X6_throwing {g : GG} {l : Launch} (hl : l.stackTraces = false) {v0 : Nat} {v1 : Int32} {v2 : Int32} {S S' : Mem} {r : Int32} (h : F_X6_throwing v0 v1 v2 S = some (r, S')) : Call g l uX6_throwing [.ref v0, .int v1, .int v2] S (cvI r) S' := by
  refine call_of (by decide +kernel) hl rfl (Nat.le_of_ble_eq_true rfl) ?_
  show Run g l uX6_throwing _ 0 [(0, .ref v0), (1, .int v1), (2, .int v2)] [] 0 0 S
  unfold F_X6_throwing at h
  refine r_aload_n dX6_throwing_0 rfl 0 rfl ?_
  refine r_iload_n dX6_throwing_1 rfl 1 rfl ?_
  refine r_if_eq (tgt := 9) dX6_throwing_2 (by decide) (fun c4 => ?_) (fun c4 => ?_)
  · rw [if_pos c4] at h
    refine r_iload_n dX6_throwing_9 rfl 2 rfl ?_
    refine r_if_eq (tgt := 17) dX6_throwing_10 (by decide) (fun c5 => ?_) (fun c5 => ?_)
    · rw [if_pos c5] at h
      refine r_iconst (v := (0 : Int32)) dX6_throwing_17 (by decide) ?_
      refine r_sub [0] rfl ?_
      exact T_X6_throwing_J18 hl v0 v0 (0 : Int32) S h
    · rw [if_neg c5] at h
      refine r_iconst (v := (2 : Int32)) dX6_throwing_13 (by decide) ?_
      refine r_goto (tgt := 18) dX6_throwing_14 (by decide) ?_
      refine r_sub [0] rfl ?_
      exact T_X6_throwing_J18 hl v0 v0 (2 : Int32) S h
  · rw [if_neg c4] at h
    refine r_iconst (v := (1 : Int32)) dX6_throwing_5 (by decide) ?_
    refine r_goto (tgt := 18) dX6_throwing_6 (by decide) ?_
    refine r_sub [0] rfl ?_
    exact T_X6_throwing_J18 hl v0 v0 (1 : Int32) S h

def F_X6_out_J9  (S : Mem) : Option (Int32 × Mem) :=
    some ((1 : Int32), S)
set_option maxRecDepth 100000 in
theorem T_X6_out_J9 {g : GG} {l : Launch} (hl : l.stackTraces = false) {S' : Mem} {r : Int32}  : ∀  (S : Mem), F_X6_out_J9  S = some (r, S') → Run g l uX6_out (fin g uX6_out (cvI r) S') 9 [] [] 0 0 S := by
  intro  S h
  unfold F_X6_out_J9 at h
  refine r_iconst (v := (1 : Int32)) dX6_out_9 (by decide) ?_
  refine r_goto (tgt := 14) dX6_out_10 (by decide) ?_
  cases h
  exact r_ireturn dX6_out_14 rfl (by decide) (by decide) (by decide)

def F_X6_out (v0 : Int32) (v1 : Int32) (S : Mem) : Option (Int32 × Mem) :=
    if v0 < 0 then
      F_X6_out_J9  S
    else
      if v0 < v1 then
        some ((0 : Int32), S)
      else
        F_X6_out_J9  S
set_option maxRecDepth 100000 in
theorem T_X6_out {g : GG} {l : Launch} (hl : l.stackTraces = false) {v0 : Int32} {v1 : Int32} {S S' : Mem} {r : Int32} (h : F_X6_out v0 v1 S = some (r, S')) : Call g l uX6_out [.int v0, .int v1] S (cvI r) S' := by
  refine call_of (by decide +kernel) hl rfl (Nat.le_of_ble_eq_true rfl) ?_
  show Run g l uX6_out _ 0 [(0, .int v0), (1, .int v1)] [] 0 0 S
  unfold F_X6_out at h
  refine r_iload_n dX6_out_0 rfl 0 rfl ?_
  refine r_if_lt (tgt := 9) dX6_out_1 (by decide) (fun c1 => ?_) (fun c1 => ?_)
  · rw [if_pos c1] at h
    refine r_sub [] rfl ?_
    exact T_X6_out_J9 hl  S h
  · rw [if_neg c1] at h
    refine r_iload_n dX6_out_4 rfl 0 rfl ?_
    refine r_iload_n dX6_out_5 rfl 1 rfl ?_
    refine r_icmp_lt (tgt := 13) dX6_out_6 (by decide) (fun c2 => ?_) (fun c2 => ?_)
    · rw [if_pos c2] at h
      refine r_iconst (v := (0 : Int32)) dX6_out_13 (by decide) ?_
      cases h
      exact r_ireturn dX6_out_14 rfl (by decide) (by decide) (by decide)
    · rw [if_neg c2] at h
      refine r_sub [] rfl ?_
      exact T_X6_out_J9 hl  S h

def F_X6_get (v0 : Nat) (v1 : Int32) (v2 : Int32) (S : Mem) : Option (Int32 × Mem) :=
    (pgR 6 5 S v0).bind fun t1 =>
    (paI S t1 (((41 : Int32) * v1) + v2)).bind fun t2 =>
    some (t2, S)
set_option maxRecDepth 100000 in
theorem T_X6_get {g : GG} {l : Launch} (hl : l.stackTraces = false) {v0 : Nat} {v1 : Int32} {v2 : Int32} {S S' : Mem} {r : Int32} (h : F_X6_get v0 v1 v2 S = some (r, S')) : Call g l uX6_get [.ref v0, .int v1, .int v2] S (cvI r) S' := by
  refine call_of (by decide +kernel) hl rfl (Nat.le_of_ble_eq_true rfl) ?_
  show Run g l uX6_get _ 0 [(0, .ref v0), (1, .int v1), (2, .int v2)] [] 0 0 S
  unfold F_X6_get at h
  refine r_aload_n dX6_get_0 rfl 0 rfl ?_
  obtain ⟨t1, h0, h⟩ := bd h
  refine q_getR h0 dX6_get_1 fl6_13 rfl ?_
  refine r_bipush (v := (41 : Int32)) dX6_get_4 (by decide) ?_
  refine r_iload_n dX6_get_6 rfl 1 rfl ?_
  refine r_imul dX6_get_7 ?_
  refine r_iload_n dX6_get_8 rfl 2 rfl ?_
  refine r_iadd dX6_get_9 ?_
  obtain ⟨t2, h0, h⟩ := bd h
  refine q_iaload h0 dX6_get_10 ?_
  cases h
  exact r_ireturn dX6_get_11 rfl rfl (by decide) (by decide)

def F_X6_put (v0 : Nat) (v1 : Int32) (v2 : Int32) (v3 : Int32) (S : Mem) : Option Mem :=
    (pgR 6 5 S v0).bind fun t1 =>
    (psI S t1 (((41 : Int32) * v1) + v2) v3).bind fun S2 =>
    some S2
set_option maxRecDepth 100000 in
theorem T_X6_put {g : GG} {l : Launch} (hl : l.stackTraces = false) {v0 : Nat} {v1 : Int32} {v2 : Int32} {v3 : Int32} {S S' : Mem} (h : F_X6_put v0 v1 v2 v3 S = some S') : Call g l uX6_put [.ref v0, .int v1, .int v2, .int v3] S cvV S' := by
  refine call_of (by decide +kernel) hl rfl (Nat.le_of_ble_eq_true rfl) ?_
  show Run g l uX6_put _ 0 [(0, .ref v0), (1, .int v1), (2, .int v2), (3, .int v3)] [] 0 0 S
  unfold F_X6_put at h
  refine r_aload_n dX6_put_0 rfl 0 rfl ?_
  obtain ⟨t1, h0, h⟩ := bd h
  refine q_getR h0 dX6_put_1 fl6_13 rfl ?_
  refine r_bipush (v := (41 : Int32)) dX6_put_4 (by decide) ?_
  refine r_iload_n dX6_put_6 rfl 1 rfl ?_
  refine r_imul dX6_put_7 ?_
  refine r_iload_n dX6_put_8 rfl 2 rfl ?_
  refine r_iadd dX6_put_9 ?_
  refine r_iload_n dX6_put_10 rfl 3 rfl ?_
  obtain ⟨S2, h0, h⟩ := bd h
  refine q_iastore h0 dX6_put_11 ?_
  cases h
  exact r_return dX6_put_12 rfl (by decide) (by decide)

def F_X6_copy_L2 : Nat → Nat → Int32 → Int32 → Int32 → Mem → Option Mem
  | 0, _, _, _, _, _ => none
  | fu + 1, v0, v1, v2, v3, S =>
    if (41 : Int32) ≤ v3 then
      some S
    else
      (pgR 6 5 S v0).bind fun t2 =>
      (pgR 6 5 S v0).bind fun t3 =>
      (paI S t3 (((41 : Int32) * v1) + v3)).bind fun t4 =>
      (psI S t2 (((41 : Int32) * v2) + v3) t4).bind fun S5 =>
      F_X6_copy_L2 fu v0 v1 v2 (v3 + 1) S5
set_option maxRecDepth 100000 in
theorem T_X6_copy_L2 {g : GG} {l : Launch} (hl : l.stackTraces = false) {S' : Mem}  : ∀ (fu : Nat) (v0 : Nat) (v1 : Int32) (v2 : Int32) (v3 : Int32) (S : Mem), F_X6_copy_L2 fu v0 v1 v2 v3 S = some S' → Run g l uX6_copy (fin g uX6_copy cvV S') 2 [(0, .ref v0), (1, .int v1), (2, .int v2), (3, .int v3)] [] 0 0 S := by
  intro fu
  induction fu with
  | zero =>
    intro v0 v1 v2 v3 S h
    cases (show none = some _ from h)
  | succ fu ih =>
    intro v0 v1 v2 v3 S h
    unfold F_X6_copy_L2 at h
    refine r_iload_n dX6_copy_2 rfl 3 rfl ?_
    refine r_bipush (v := (41 : Int32)) dX6_copy_3 (by decide) ?_
    refine r_icmp_ge (tgt := 36) dX6_copy_5 (by decide) (fun c1 => ?_) (fun c1 => ?_)
    · rw [if_pos c1] at h
      cases h
      exact r_return dX6_copy_36 rfl (by decide) (by decide)
    · rw [if_neg c1] at h
      refine r_aload_n dX6_copy_8 rfl 0 rfl ?_
      obtain ⟨t2, h0, h⟩ := bd h
      refine q_getR h0 dX6_copy_9 fl6_13 rfl ?_
      refine r_bipush (v := (41 : Int32)) dX6_copy_12 (by decide) ?_
      refine r_iload_n dX6_copy_14 rfl 2 rfl ?_
      refine r_imul dX6_copy_15 ?_
      refine r_iload_n dX6_copy_16 rfl 3 rfl ?_
      refine r_iadd dX6_copy_17 ?_
      refine r_aload_n dX6_copy_18 rfl 0 rfl ?_
      obtain ⟨t3, h0, h⟩ := bd h
      refine q_getR h0 dX6_copy_19 fl6_13 rfl ?_
      refine r_bipush (v := (41 : Int32)) dX6_copy_22 (by decide) ?_
      refine r_iload_n dX6_copy_24 rfl 1 rfl ?_
      refine r_imul dX6_copy_25 ?_
      refine r_iload_n dX6_copy_26 rfl 3 rfl ?_
      refine r_iadd dX6_copy_27 ?_
      obtain ⟨t4, h0, h⟩ := bd h
      refine q_iaload h0 dX6_copy_28 ?_
      obtain ⟨S5, h0, h⟩ := bd h
      refine q_iastore h0 dX6_copy_29 ?_
      refine r_iinc (v := v3 + 1) (lv' := [(3, .int (v3 + 1)), (0, .ref v0), (1, .int v1), (2, .int v2)]) dX6_copy_30 3 rfl rfl (by decide) rfl ?_
      refine r_goto (tgt := 2) dX6_copy_33 (by decide) ?_
      refine r_sub [1, 2, 3, 0] rfl ?_
      exact ih v0 v1 v2 (v3 + 1) S5 h

def F_X6_copy (v0 : Nat) (v1 : Int32) (v2 : Int32) (S : Mem) : Option Mem :=
    F_X6_copy_L2 FU v0 v1 v2 (0 : Int32) S
set_option maxRecDepth 100000 in
theorem T_X6_copy {g : GG} {l : Launch} (hl : l.stackTraces = false) {v0 : Nat} {v1 : Int32} {v2 : Int32} {S S' : Mem} (h : F_X6_copy v0 v1 v2 S = some S') : Call g l uX6_copy [.ref v0, .int v1, .int v2] S cvV S' := by
  refine call_of (by decide +kernel) hl rfl (Nat.le_of_ble_eq_true rfl) ?_
  show Run g l uX6_copy _ 0 [(0, .ref v0), (1, .int v1), (2, .int v2)] [] 0 0 S
  unfold F_X6_copy at h
  refine r_iconst (v := (0 : Int32)) dX6_copy_0 (by decide) ?_
  refine r_istore_n (lv' := [(3, .int ((0 : Int32))), (0, .ref v0), (1, .int v1), (2, .int v2)]) dX6_copy_1 rfl (by decide) rfl ?_
  refine r_sub [1, 2, 3, 0] rfl ?_
  exact T_X6_copy_L2 hl FU v0 v1 v2 (0 : Int32) S h

def F_X6_empty_J38 (K2 : Nat → Int32 → Int32 → Int32 → Mem → Option Mem) (v0 : Nat) (v1 : Int32) (v2 : Int32) (v3 : Int32) (s0 : Nat) (s1 : Int32) (s2 : Int32) (s3 : Int32) (S : Mem) : Option Mem :=
    (pk 6 S s0).bind fun _ =>
    (F_X6_put s0 s1 s2 s3 S).bind fun S3 =>
    K2 v0 v1 v2 (v3 + 1) S3
set_option maxRecDepth 100000 in
theorem T_X6_empty_J38 {g : GG} {l : Launch} (hl : l.stackTraces = false) {S' : Mem}  {K2 : Nat → Int32 → Int32 → Int32 → Mem → Option Mem} (hK2 : ∀ (v0 : Nat) (v1 : Int32) (v2 : Int32) (v3 : Int32) (S : Mem), K2 v0 v1 v2 v3 S = some S' → Run g l uX6_empty (fin g uX6_empty cvV S') 2 [(0, .ref v0), (1, .int v1), (2, .int v2), (3, .int v3)] [] 0 0 S) : ∀ (v0 : Nat) (v1 : Int32) (v2 : Int32) (v3 : Int32) (s0 : Nat) (s1 : Int32) (s2 : Int32) (s3 : Int32) (S : Mem), F_X6_empty_J38 K2 v0 v1 v2 v3 s0 s1 s2 s3 S = some S' → Run g l uX6_empty (fin g uX6_empty cvV S') 38 [(0, .ref v0), (1, .int v1), (2, .int v2), (3, .int v3)] [.int s3, .int s2, .int s1, .ref s0] 0 0 S := by
  intro v0 v1 v2 v3 s0 s1 s2 s3 S h
  unfold F_X6_empty_J38 at h
  obtain ⟨z1, hk, h⟩ := bd h
  obtain ⟨S3, h0, h⟩ := bd h
  refine r_invV (As := [.int s1, .int s2, .int s3]) (st := []) dX6_empty_38 lv6_29 (by unfold RM; decide) (Nat.le_of_ble_eq_true rfl) rfl rfl (pk_ok hk) (T_X6_put hl h0) ?_
  refine r_iinc (v := v3 + 1) (lv' := [(3, .int (v3 + 1)), (0, .ref v0), (1, .int v1), (2, .int v2)]) dX6_empty_41 3 rfl rfl (by decide) rfl ?_
  refine r_goto (tgt := 2) dX6_empty_44 (by decide) ?_
  refine r_sub [1, 2, 3, 0] rfl ?_
  exact hK2 v0 v1 v2 (v3 + 1) S3 h

def F_X6_empty_J37 (K2 : Nat → Int32 → Int32 → Int32 → Mem → Option Mem) (v0 : Nat) (v1 : Int32) (v2 : Int32) (v3 : Int32) (s0 : Nat) (s1 : Int32) (s2 : Int32) (S : Mem) : Option Mem :=
    F_X6_empty_J38 K2 v0 v1 v2 v3 s0 s1 s2 (0 : Int32) S
set_option maxRecDepth 100000 in
theorem T_X6_empty_J37 {g : GG} {l : Launch} (hl : l.stackTraces = false) {S' : Mem}  {K2 : Nat → Int32 → Int32 → Int32 → Mem → Option Mem} (hK2 : ∀ (v0 : Nat) (v1 : Int32) (v2 : Int32) (v3 : Int32) (S : Mem), K2 v0 v1 v2 v3 S = some S' → Run g l uX6_empty (fin g uX6_empty cvV S') 2 [(0, .ref v0), (1, .int v1), (2, .int v2), (3, .int v3)] [] 0 0 S) : ∀ (v0 : Nat) (v1 : Int32) (v2 : Int32) (v3 : Int32) (s0 : Nat) (s1 : Int32) (s2 : Int32) (S : Mem), F_X6_empty_J37 K2 v0 v1 v2 v3 s0 s1 s2 S = some S' → Run g l uX6_empty (fin g uX6_empty cvV S') 37 [(0, .ref v0), (1, .int v1), (2, .int v2), (3, .int v3)] [.int s2, .int s1, .ref s0] 0 0 S := by
  intro v0 v1 v2 v3 s0 s1 s2 S h
  unfold F_X6_empty_J37 at h
  refine r_iconst (v := (0 : Int32)) dX6_empty_37 (by decide) ?_
  exact T_X6_empty_J38 hl hK2 v0 v1 v2 v3 s0 s1 s2 (0 : Int32) S h

def F_X6_empty_L2 : Nat → Nat → Int32 → Int32 → Int32 → Mem → Option Mem
  | 0, _, _, _, _, _ => none
  | fu + 1, v0, v1, v2, v3, S =>
    if (41 : Int32) ≤ v3 then
      (pk 6 S v0).bind fun _ =>
      (F_X6_put v0 v1 (0 : Int32) v2 S).bind fun S7 =>
      some S7
    else
      if v3 < (15 : Int32) then
        F_X6_empty_J37 (F_X6_empty_L2 fu) v0 v1 v2 v3 v0 v1 v3 S
      else
        if (21 : Int32) ≤ v3 then
          F_X6_empty_J37 (F_X6_empty_L2 fu) v0 v1 v2 v3 v0 v1 v3 S
        else
          (prem (v3 - (15 : Int32)) (3 : Int32)).bind fun t10 =>
          if (2 : Int32) ≤ t10 then
            F_X6_empty_J37 (F_X6_empty_L2 fu) v0 v1 v2 v3 v0 v1 v3 S
          else
            F_X6_empty_J38 (F_X6_empty_L2 fu) v0 v1 v2 v3 v0 v1 v3 (-1 : Int32) S
set_option maxRecDepth 100000 in
theorem T_X6_empty_L2 {g : GG} {l : Launch} (hl : l.stackTraces = false) {S' : Mem}  : ∀ (fu : Nat) (v0 : Nat) (v1 : Int32) (v2 : Int32) (v3 : Int32) (S : Mem), F_X6_empty_L2 fu v0 v1 v2 v3 S = some S' → Run g l uX6_empty (fin g uX6_empty cvV S') 2 [(0, .ref v0), (1, .int v1), (2, .int v2), (3, .int v3)] [] 0 0 S := by
  intro fu
  induction fu with
  | zero =>
    intro v0 v1 v2 v3 S h
    cases (show none = some _ from h)
  | succ fu ih =>
    intro v0 v1 v2 v3 S h
    unfold F_X6_empty_L2 at h
    refine r_iload_n dX6_empty_2 rfl 3 rfl ?_
    refine r_bipush (v := (41 : Int32)) dX6_empty_3 (by decide) ?_
    refine r_icmp_ge (tgt := 47) dX6_empty_5 (by decide) (fun c4 => ?_) (fun c4 => ?_)
    · rw [if_pos c4] at h
      refine r_aload_n dX6_empty_47 rfl 0 rfl ?_
      refine r_iload_n dX6_empty_48 rfl 1 rfl ?_
      refine r_iconst (v := (0 : Int32)) dX6_empty_49 (by decide) ?_
      refine r_iload_n dX6_empty_50 rfl 2 rfl ?_
      obtain ⟨z5, hk, h⟩ := bd h
      obtain ⟨S7, h0, h⟩ := bd h
      refine r_invV (As := [.int v1, .int ((0 : Int32)), .int v2]) (st := []) dX6_empty_51 lv6_29 (by unfold RM; decide) (Nat.le_of_ble_eq_true rfl) rfl rfl (pk_ok hk) (T_X6_put hl h0) ?_
      cases h
      exact r_return dX6_empty_54 rfl (by decide) (by decide)
    · rw [if_neg c4] at h
      refine r_aload_n dX6_empty_8 rfl 0 rfl ?_
      refine r_iload_n dX6_empty_9 rfl 1 rfl ?_
      refine r_iload_n dX6_empty_10 rfl 3 rfl ?_
      refine r_iload_n dX6_empty_11 rfl 3 rfl ?_
      refine r_bipush (v := (15 : Int32)) dX6_empty_12 (by decide) ?_
      refine r_icmp_lt (tgt := 37) dX6_empty_14 (by decide) (fun c8 => ?_) (fun c8 => ?_)
      · rw [if_pos c8] at h
        exact T_X6_empty_J37 hl (fun v0 v1 v2 v3 S h => ih v0 v1 v2 v3 S h) v0 v1 v2 v3 v0 v1 v3 S h
      · rw [if_neg c8] at h
        refine r_iload_n dX6_empty_17 rfl 3 rfl ?_
        refine r_bipush (v := (21 : Int32)) dX6_empty_18 (by decide) ?_
        refine r_icmp_ge (tgt := 37) dX6_empty_20 (by decide) (fun c9 => ?_) (fun c9 => ?_)
        · rw [if_pos c9] at h
          exact T_X6_empty_J37 hl (fun v0 v1 v2 v3 S h => ih v0 v1 v2 v3 S h) v0 v1 v2 v3 v0 v1 v3 S h
        · rw [if_neg c9] at h
          refine r_iload_n dX6_empty_23 rfl 3 rfl ?_
          refine r_bipush (v := (15 : Int32)) dX6_empty_24 (by decide) ?_
          refine r_isub dX6_empty_26 ?_
          refine r_iconst (v := (3 : Int32)) dX6_empty_27 (by decide) ?_
          obtain ⟨t10, h0, h⟩ := bd h
          refine q_irem h0 dX6_empty_28 ?_
          refine r_iconst (v := (2 : Int32)) dX6_empty_29 (by decide) ?_
          refine r_icmp_ge (tgt := 37) dX6_empty_30 (by decide) (fun c11 => ?_) (fun c11 => ?_)
          · rw [if_pos c11] at h
            exact T_X6_empty_J37 hl (fun v0 v1 v2 v3 S h => ih v0 v1 v2 v3 S h) v0 v1 v2 v3 v0 v1 v3 S h
          · rw [if_neg c11] at h
            refine r_iconst (v := (-1 : Int32)) dX6_empty_33 (by decide) ?_
            refine r_goto (tgt := 38) dX6_empty_34 (by decide) ?_
            exact T_X6_empty_J38 hl (fun v0 v1 v2 v3 S h => ih v0 v1 v2 v3 S h) v0 v1 v2 v3 v0 v1 v3 (-1 : Int32) S h

def F_X6_empty (v0 : Nat) (v1 : Int32) (v2 : Int32) (S : Mem) : Option Mem :=
    F_X6_empty_L2 FU v0 v1 v2 (0 : Int32) S
set_option maxRecDepth 100000 in
theorem T_X6_empty {g : GG} {l : Launch} (hl : l.stackTraces = false) {v0 : Nat} {v1 : Int32} {v2 : Int32} {S S' : Mem} (h : F_X6_empty v0 v1 v2 S = some S') : Call g l uX6_empty [.ref v0, .int v1, .int v2] S cvV S' := by
  refine call_of (by decide +kernel) hl rfl (Nat.le_of_ble_eq_true rfl) ?_
  show Run g l uX6_empty _ 0 [(0, .ref v0), (1, .int v1), (2, .int v2)] [] 0 0 S
  unfold F_X6_empty at h
  refine r_iconst (v := (0 : Int32)) dX6_empty_0 (by decide) ?_
  refine r_istore_n (lv' := [(3, .int ((0 : Int32))), (0, .ref v0), (1, .int v1), (2, .int v2)]) dX6_empty_1 rfl (by decide) rfl ?_
  refine r_sub [1, 2, 3, 0] rfl ?_
  exact T_X6_empty_L2 hl FU v0 v1 v2 (0 : Int32) S h

def F_X6_addAllele (v0 : Nat) (v1 : Int32) (v2 : Int32) (v3 : Int32) (S : Mem) : Option Mem :=
    (pk 6 S v0).bind fun _ =>
    bd2 (F_X6_get v0 v1 (1 : Int32) S) fun t2 S3 =>
    (pk 6 S3 v0).bind fun _ =>
    (F_X6_put v0 v1 ((2 : Int32) + t2) v2 S3).bind fun S6 =>
    (pk 6 S6 v0).bind fun _ =>
    (F_X6_put v0 v1 ((6 : Int32) + t2) v3 S6).bind fun S9 =>
    (pk 6 S9 v0).bind fun _ =>
    (F_X6_put v0 v1 (1 : Int32) (t2 + (1 : Int32)) S9).bind fun S12 =>
    some S12
set_option maxRecDepth 100000 in
theorem T_X6_addAllele {g : GG} {l : Launch} (hl : l.stackTraces = false) {v0 : Nat} {v1 : Int32} {v2 : Int32} {v3 : Int32} {S S' : Mem} (h : F_X6_addAllele v0 v1 v2 v3 S = some S') : Call g l uX6_addAllele [.ref v0, .int v1, .int v2, .int v3] S cvV S' := by
  refine call_of (by decide +kernel) hl rfl (Nat.le_of_ble_eq_true rfl) ?_
  show Run g l uX6_addAllele _ 0 [(0, .ref v0), (1, .int v1), (2, .int v2), (3, .int v3)] [] 0 0 S
  unfold F_X6_addAllele at h
  refine r_aload_n dX6_addAllele_0 rfl 0 rfl ?_
  refine r_iload_n dX6_addAllele_1 rfl 1 rfl ?_
  refine r_iconst (v := (1 : Int32)) dX6_addAllele_2 (by decide) ?_
  obtain ⟨z1, hk, h⟩ := bd h
  obtain ⟨t2, S3, h0, h⟩ := bd2_s h
  refine r_invV (As := [.int v1, .int ((1 : Int32))]) (st := []) dX6_addAllele_3 lv6_33 (by unfold RM; decide) (Nat.le_of_ble_eq_true rfl) rfl rfl (pk_ok hk) (T_X6_get hl h0) ?_
  refine r_istore (lv' := [(4, .int t2), (0, .ref v0), (1, .int v1), (2, .int v2), (3, .int v3)]) dX6_addAllele_6 (by decide) rfl ?_
  refine r_aload_n dX6_addAllele_8 rfl 1 rfl ?_
  refine r_iload_n dX6_addAllele_9 rfl 2 rfl ?_
  refine r_iconst (v := (2 : Int32)) dX6_addAllele_10 (by decide) ?_
  refine r_iload dX6_addAllele_11 0 rfl ?_
  refine r_iadd dX6_addAllele_13 ?_
  refine r_iload_n dX6_addAllele_14 rfl 3 rfl ?_
  obtain ⟨z4, hk, h⟩ := bd h
  obtain ⟨S6, h0, h⟩ := bd h
  refine r_invV (As := [.int v1, .int ((2 : Int32) + t2), .int v2]) (st := []) dX6_addAllele_15 lv6_29 (by unfold RM; decide) (Nat.le_of_ble_eq_true rfl) rfl rfl (pk_ok hk) (T_X6_put hl h0) ?_
  refine r_aload_n dX6_addAllele_18 rfl 1 rfl ?_
  refine r_iload_n dX6_addAllele_19 rfl 2 rfl ?_
  refine r_bipush (v := (6 : Int32)) dX6_addAllele_20 (by decide) ?_
  refine r_iload dX6_addAllele_22 0 rfl ?_
  refine r_iadd dX6_addAllele_24 ?_
  refine r_iload_n dX6_addAllele_25 rfl 4 rfl ?_
  obtain ⟨z7, hk, h⟩ := bd h
  obtain ⟨S9, h0, h⟩ := bd h
  refine r_invV (As := [.int v1, .int ((6 : Int32) + t2), .int v3]) (st := []) dX6_addAllele_26 lv6_29 (by unfold RM; decide) (Nat.le_of_ble_eq_true rfl) rfl rfl (pk_ok hk) (T_X6_put hl h0) ?_
  refine r_aload_n dX6_addAllele_29 rfl 1 rfl ?_
  refine r_iload_n dX6_addAllele_30 rfl 2 rfl ?_
  refine r_iconst (v := (1 : Int32)) dX6_addAllele_31 (by decide) ?_
  refine r_iload dX6_addAllele_32 0 rfl ?_
  refine r_iconst (v := (1 : Int32)) dX6_addAllele_34 (by decide) ?_
  refine r_iadd dX6_addAllele_35 ?_
  obtain ⟨z10, hk, h⟩ := bd h
  obtain ⟨S12, h0, h⟩ := bd h
  refine r_invV (As := [.int v1, .int ((1 : Int32)), .int (t2 + (1 : Int32))]) (st := []) dX6_addAllele_36 lv6_29 (by unfold RM; decide) (Nat.le_of_ble_eq_true rfl) rfl rfl (pk_ok hk) (T_X6_put hl h0) ?_
  cases h
  exact r_return dX6_addAllele_39 rfl (by decide) (by decide)

def F_X6_findAllele_J44 (K3 : Nat → Int32 → Int32 → Int32 → Int32 → Mem → Option (Int32 × Mem)) (v0 : Nat) (v1 : Int32) (v2 : Int32) (v3 : Int32) (v4 : Int32) (S : Mem) : Option (Int32 × Mem) :=
    K3 v0 v1 v2 v3 (v4 + 1) S
set_option maxRecDepth 100000 in
theorem T_X6_findAllele_J44 {g : GG} {l : Launch} (hl : l.stackTraces = false) {S' : Mem} {r : Int32}  {K3 : Nat → Int32 → Int32 → Int32 → Int32 → Mem → Option (Int32 × Mem)} (hK3 : ∀ (v0 : Nat) (v1 : Int32) (v2 : Int32) (v3 : Int32) (v4 : Int32) (S : Mem), K3 v0 v1 v2 v3 v4 S = some (r, S') → Run g l uX6_findAllele (fin g uX6_findAllele (cvI r) S') 3 [(0, .ref v0), (1, .int v1), (2, .int v2), (3, .int v3), (4, .int v4)] [] 0 0 S) : ∀ (v0 : Nat) (v1 : Int32) (v2 : Int32) (v3 : Int32) (v4 : Int32) (S : Mem), F_X6_findAllele_J44 K3 v0 v1 v2 v3 v4 S = some (r, S') → Run g l uX6_findAllele (fin g uX6_findAllele (cvI r) S') 44 [(0, .ref v0), (1, .int v1), (2, .int v2), (3, .int v3), (4, .int v4)] [] 0 0 S := by
  intro v0 v1 v2 v3 v4 S h
  unfold F_X6_findAllele_J44 at h
  refine r_iinc (v := v4 + 1) (lv' := [(4, .int (v4 + 1)), (0, .ref v0), (1, .int v1), (2, .int v2), (3, .int v3)]) dX6_findAllele_44 4 rfl rfl (by decide) rfl ?_
  refine r_goto (tgt := 3) dX6_findAllele_47 (by decide) ?_
  refine r_sub [1, 2, 3, 4, 0] rfl ?_
  exact hK3 v0 v1 v2 v3 (v4 + 1) S h

def F_X6_findAllele_L3 : Nat → Nat → Int32 → Int32 → Int32 → Int32 → Mem → Option (Int32 × Mem)
  | 0, _, _, _, _, _, _ => none
  | fu + 1, v0, v1, v2, v3, v4, S =>
    (pk 6 S v0).bind fun _ =>
    bd2 (F_X6_get v0 v1 (1 : Int32) S) fun t2 S3 =>
    if t2 ≤ v4 then
      some ((-1 : Int32), S3)
    else
      (pk 6 S3 v0).bind fun _ =>
      bd2 (F_X6_get v0 v1 ((2 : Int32) + v4) S3) fun t6 S7 =>
      if t6 = v2 then
        (pk 6 S7 v0).bind fun _ =>
        bd2 (F_X6_get v0 v1 ((6 : Int32) + v4) S7) fun t10 S11 =>
        if t10 = v3 then
          some (v4, S11)
        else
          F_X6_findAllele_J44 (F_X6_findAllele_L3 fu) v0 v1 v2 v3 v4 S11
      else
        F_X6_findAllele_J44 (F_X6_findAllele_L3 fu) v0 v1 v2 v3 v4 S7
set_option maxRecDepth 100000 in
theorem T_X6_findAllele_L3 {g : GG} {l : Launch} (hl : l.stackTraces = false) {S' : Mem} {r : Int32}  : ∀ (fu : Nat) (v0 : Nat) (v1 : Int32) (v2 : Int32) (v3 : Int32) (v4 : Int32) (S : Mem), F_X6_findAllele_L3 fu v0 v1 v2 v3 v4 S = some (r, S') → Run g l uX6_findAllele (fin g uX6_findAllele (cvI r) S') 3 [(0, .ref v0), (1, .int v1), (2, .int v2), (3, .int v3), (4, .int v4)] [] 0 0 S := by
  intro fu
  induction fu with
  | zero =>
    intro v0 v1 v2 v3 v4 S h
    cases (show none = some _ from h)
  | succ fu ih =>
    intro v0 v1 v2 v3 v4 S h
    unfold F_X6_findAllele_L3 at h
    refine r_iload dX6_findAllele_3 4 rfl ?_
    refine r_aload_n dX6_findAllele_5 rfl 0 rfl ?_
    refine r_iload_n dX6_findAllele_6 rfl 1 rfl ?_
    refine r_iconst (v := (1 : Int32)) dX6_findAllele_7 (by decide) ?_
    obtain ⟨z1, hk, h⟩ := bd h
    obtain ⟨t2, S3, h0, h⟩ := bd2_s h
    refine r_invV (As := [.int v1, .int ((1 : Int32))]) (st := [.int v4]) dX6_findAllele_8 lv6_33 (by unfold RM; decide) (Nat.le_of_ble_eq_true rfl) rfl rfl (pk_ok hk) (T_X6_get hl h0) ?_
    refine r_icmp_ge (tgt := 50) dX6_findAllele_11 (by decide) (fun c4 => ?_) (fun c4 => ?_)
    · rw [if_pos c4] at h
      refine r_iconst (v := (-1 : Int32)) dX6_findAllele_50 (by decide) ?_
      cases h
      exact r_ireturn dX6_findAllele_51 rfl rfl (by decide) (by decide)
    · rw [if_neg c4] at h
      refine r_aload_n dX6_findAllele_14 rfl 0 rfl ?_
      refine r_iload_n dX6_findAllele_15 rfl 1 rfl ?_
      refine r_iconst (v := (2 : Int32)) dX6_findAllele_16 (by decide) ?_
      refine r_iload dX6_findAllele_17 4 rfl ?_
      refine r_iadd dX6_findAllele_19 ?_
      obtain ⟨z5, hk, h⟩ := bd h
      obtain ⟨t6, S7, h0, h⟩ := bd2_s h
      refine r_invV (As := [.int v1, .int ((2 : Int32) + v4)]) (st := []) dX6_findAllele_20 lv6_33 (by unfold RM; decide) (Nat.le_of_ble_eq_true rfl) rfl rfl (pk_ok hk) (T_X6_get hl h0) ?_
      refine r_iload_n dX6_findAllele_23 rfl 2 rfl ?_
      refine r_icmp_ne (tgt := 44) dX6_findAllele_24 (by decide) (fun c8 => ?_) (fun c8 => ?_)
      · rw [if_neg c8] at h
        exact T_X6_findAllele_J44 hl (fun v0 v1 v2 v3 v4 S h => ih v0 v1 v2 v3 v4 S h) v0 v1 v2 v3 v4 S7 h
      · rw [if_pos c8] at h
        refine r_aload_n dX6_findAllele_27 rfl 0 rfl ?_
        refine r_iload_n dX6_findAllele_28 rfl 1 rfl ?_
        refine r_bipush (v := (6 : Int32)) dX6_findAllele_29 (by decide) ?_
        refine r_iload dX6_findAllele_31 4 rfl ?_
        refine r_iadd dX6_findAllele_33 ?_
        obtain ⟨z9, hk, h⟩ := bd h
        obtain ⟨t10, S11, h0, h⟩ := bd2_s h
        refine r_invV (As := [.int v1, .int ((6 : Int32) + v4)]) (st := []) dX6_findAllele_34 lv6_33 (by unfold RM; decide) (Nat.le_of_ble_eq_true rfl) rfl rfl (pk_ok hk) (T_X6_get hl h0) ?_
        refine r_iload_n dX6_findAllele_37 rfl 3 rfl ?_
        refine r_icmp_ne (tgt := 44) dX6_findAllele_38 (by decide) (fun c12 => ?_) (fun c12 => ?_)
        · rw [if_neg c12] at h
          exact T_X6_findAllele_J44 hl (fun v0 v1 v2 v3 v4 S h => ih v0 v1 v2 v3 v4 S h) v0 v1 v2 v3 v4 S11 h
        · rw [if_pos c12] at h
          refine r_iload dX6_findAllele_41 4 rfl ?_
          cases h
          exact r_ireturn dX6_findAllele_43 rfl rfl (by decide) (by decide)

def F_X6_findAllele (v0 : Nat) (v1 : Int32) (v2 : Int32) (v3 : Int32) (S : Mem) : Option (Int32 × Mem) :=
    F_X6_findAllele_L3 FU v0 v1 v2 v3 (0 : Int32) S
set_option maxRecDepth 100000 in
theorem T_X6_findAllele {g : GG} {l : Launch} (hl : l.stackTraces = false) {v0 : Nat} {v1 : Int32} {v2 : Int32} {v3 : Int32} {S S' : Mem} {r : Int32} (h : F_X6_findAllele v0 v1 v2 v3 S = some (r, S')) : Call g l uX6_findAllele [.ref v0, .int v1, .int v2, .int v3] S (cvI r) S' := by
  refine call_of (by decide +kernel) hl rfl (Nat.le_of_ble_eq_true rfl) ?_
  show Run g l uX6_findAllele _ 0 [(0, .ref v0), (1, .int v1), (2, .int v2), (3, .int v3)] [] 0 0 S
  unfold F_X6_findAllele at h
  refine r_iconst (v := (0 : Int32)) dX6_findAllele_0 (by decide) ?_
  refine r_istore (lv' := [(4, .int ((0 : Int32))), (0, .ref v0), (1, .int v1), (2, .int v2), (3, .int v3)]) dX6_findAllele_1 (by decide) rfl ?_
  refine r_sub [1, 2, 3, 4, 0] rfl ?_
  exact T_X6_findAllele_L3 hl FU v0 v1 v2 v3 (0 : Int32) S h

def F_X6_referenceFrom_L5 : Nat → Nat → Int32 → Int32 → Int32 → Int32 → Mem → Option (Int32 × Mem)
  | 0, _, _, _, _, _, _ => none
  | fu + 1, v0, v1, v2, v3, v4, S =>
    if v2 ≤ v4 then
      some (v3, S)
    else
      (pgR 6 1 S v0).bind fun t2 =>
      (paI S t2 (v1 + v4)).bind fun t3 =>
      F_X6_referenceFrom_L5 fu v0 v1 v2 (((4 : Int32) * v3) + t3) (v4 + 1) S
set_option maxRecDepth 100000 in
theorem T_X6_referenceFrom_L5 {g : GG} {l : Launch} (hl : l.stackTraces = false) {S' : Mem} {r : Int32}  : ∀ (fu : Nat) (v0 : Nat) (v1 : Int32) (v2 : Int32) (v3 : Int32) (v4 : Int32) (S : Mem), F_X6_referenceFrom_L5 fu v0 v1 v2 v3 v4 S = some (r, S') → Run g l uX6_referenceFrom (fin g uX6_referenceFrom (cvI r) S') 5 [(0, .ref v0), (1, .int v1), (2, .int v2), (3, .int v3), (4, .int v4)] [] 0 0 S := by
  intro fu
  induction fu with
  | zero =>
    intro v0 v1 v2 v3 v4 S h
    cases (show none = some _ from h)
  | succ fu ih =>
    intro v0 v1 v2 v3 v4 S h
    unfold F_X6_referenceFrom_L5 at h
    refine r_iload dX6_referenceFrom_5 4 rfl ?_
    refine r_iload_n dX6_referenceFrom_7 rfl 2 rfl ?_
    refine r_icmp_ge (tgt := 31) dX6_referenceFrom_8 (by decide) (fun c1 => ?_) (fun c1 => ?_)
    · rw [if_pos c1] at h
      refine r_iload_n dX6_referenceFrom_31 rfl 3 rfl ?_
      cases h
      exact r_ireturn dX6_referenceFrom_32 rfl rfl (by decide) (by decide)
    · rw [if_neg c1] at h
      refine r_iconst (v := (4 : Int32)) dX6_referenceFrom_11 (by decide) ?_
      refine r_iload_n dX6_referenceFrom_12 rfl 3 rfl ?_
      refine r_imul dX6_referenceFrom_13 ?_
      refine r_aload_n dX6_referenceFrom_14 rfl 0 rfl ?_
      obtain ⟨t2, h0, h⟩ := bd h
      refine q_getR h0 dX6_referenceFrom_15 fl6_7 rfl ?_
      refine r_iload_n dX6_referenceFrom_18 rfl 1 rfl ?_
      refine r_iload dX6_referenceFrom_19 4 rfl ?_
      refine r_iadd dX6_referenceFrom_21 ?_
      obtain ⟨t3, h0, h⟩ := bd h
      refine q_iaload h0 dX6_referenceFrom_22 ?_
      refine r_iadd dX6_referenceFrom_23 ?_
      refine r_istore_n (lv' := [(3, .int (((4 : Int32) * v3) + t3)), (0, .ref v0), (1, .int v1), (2, .int v2), (4, .int v4)]) dX6_referenceFrom_24 rfl (by decide) rfl ?_
      refine r_iinc (v := v4 + 1) (lv' := [(4, .int (v4 + 1)), (3, .int (((4 : Int32) * v3) + t3)), (0, .ref v0), (1, .int v1), (2, .int v2)]) dX6_referenceFrom_25 4 rfl rfl (by decide) rfl ?_
      refine r_goto (tgt := 5) dX6_referenceFrom_28 (by decide) ?_
      refine r_sub [2, 3, 4, 1, 0] rfl ?_
      exact ih v0 v1 v2 (((4 : Int32) * v3) + t3) (v4 + 1) S h

def F_X6_referenceFrom (v0 : Nat) (v1 : Int32) (v2 : Int32) (S : Mem) : Option (Int32 × Mem) :=
    F_X6_referenceFrom_L5 FU v0 v1 v2 (0 : Int32) (0 : Int32) S
set_option maxRecDepth 100000 in
theorem T_X6_referenceFrom {g : GG} {l : Launch} (hl : l.stackTraces = false) {v0 : Nat} {v1 : Int32} {v2 : Int32} {S S' : Mem} {r : Int32} (h : F_X6_referenceFrom v0 v1 v2 S = some (r, S')) : Call g l uX6_referenceFrom [.ref v0, .int v1, .int v2] S (cvI r) S' := by
  refine call_of (by decide +kernel) hl rfl (Nat.le_of_ble_eq_true rfl) ?_
  show Run g l uX6_referenceFrom _ 0 [(0, .ref v0), (1, .int v1), (2, .int v2)] [] 0 0 S
  unfold F_X6_referenceFrom at h
  refine r_iconst (v := (0 : Int32)) dX6_referenceFrom_0 (by decide) ?_
  refine r_istore_n (lv' := [(3, .int ((0 : Int32))), (0, .ref v0), (1, .int v1), (2, .int v2)]) dX6_referenceFrom_1 rfl (by decide) rfl ?_
  refine r_iconst (v := (0 : Int32)) dX6_referenceFrom_2 (by decide) ?_
  refine r_istore (lv' := [(4, .int ((0 : Int32))), (3, .int ((0 : Int32))), (0, .ref v0), (1, .int v1), (2, .int v2)]) dX6_referenceFrom_3 (by decide) rfl ?_
  refine r_sub [2, 3, 4, 1, 0] rfl ?_
  exact T_X6_referenceFrom_L5 hl FU v0 v1 v2 (0 : Int32) (0 : Int32) S h

def F_X6_pair (v0 : Int32) (v1 : Int32) (S : Mem) : Option (Int32 × Mem) :=
    if v1 ≤ v0 then
      (pdiv (v0 * (v0 + (1 : Int32))) (2 : Int32)).bind fun t2 =>
      some (t2 + v1, S)
    else
      (pdiv (v1 * (v1 + (1 : Int32))) (2 : Int32)).bind fun t3 =>
      some (t3 + v0, S)
set_option maxRecDepth 100000 in
theorem T_X6_pair {g : GG} {l : Launch} (hl : l.stackTraces = false) {v0 : Int32} {v1 : Int32} {S S' : Mem} {r : Int32} (h : F_X6_pair v0 v1 S = some (r, S')) : Call g l uX6_pair [.int v0, .int v1] S (cvI r) S' := by
  refine call_of (by decide +kernel) hl rfl (Nat.le_of_ble_eq_true rfl) ?_
  show Run g l uX6_pair _ 0 [(0, .int v0), (1, .int v1)] [] 0 0 S
  unfold F_X6_pair at h
  refine r_iload_n dX6_pair_0 rfl 0 rfl ?_
  refine r_iload_n dX6_pair_1 rfl 1 rfl ?_
  refine r_icmp_ge (tgt := 17) dX6_pair_2 (by decide) (fun c1 => ?_) (fun c1 => ?_)
  · rw [if_pos c1] at h
    refine r_iload_n dX6_pair_17 rfl 0 rfl ?_
    refine r_iload_n dX6_pair_18 rfl 0 rfl ?_
    refine r_iconst (v := (1 : Int32)) dX6_pair_19 (by decide) ?_
    refine r_iadd dX6_pair_20 ?_
    refine r_imul dX6_pair_21 ?_
    refine r_iconst (v := (2 : Int32)) dX6_pair_22 (by decide) ?_
    obtain ⟨t2, h0, h⟩ := bd h
    refine q_idiv h0 dX6_pair_23 ?_
    refine r_iload_n dX6_pair_24 rfl 1 rfl ?_
    refine r_iadd dX6_pair_25 ?_
    cases h
    exact r_ireturn dX6_pair_26 rfl rfl (by decide) (by decide)
  · rw [if_neg c1] at h
    refine r_iload_n dX6_pair_5 rfl 1 rfl ?_
    refine r_iload_n dX6_pair_6 rfl 1 rfl ?_
    refine r_iconst (v := (1 : Int32)) dX6_pair_7 (by decide) ?_
    refine r_iadd dX6_pair_8 ?_
    refine r_imul dX6_pair_9 ?_
    refine r_iconst (v := (2 : Int32)) dX6_pair_10 (by decide) ?_
    obtain ⟨t3, h0, h⟩ := bd h
    refine q_idiv h0 dX6_pair_11 ?_
    refine r_iload_n dX6_pair_12 rfl 0 rfl ?_
    refine r_iadd dX6_pair_13 ?_
    refine r_goto (tgt := 26) dX6_pair_14 (by decide) ?_
    cases h
    exact r_ireturn dX6_pair_26 rfl rfl (by decide) (by decide)

def F_X6_pairs (v0 : Int32) (S : Mem) : Option (Int32 × Mem) :=
    (pdiv (v0 * (v0 + (1 : Int32))) (2 : Int32)).bind fun t1 =>
    some (t1, S)
set_option maxRecDepth 100000 in
theorem T_X6_pairs {g : GG} {l : Launch} (hl : l.stackTraces = false) {v0 : Int32} {S S' : Mem} {r : Int32} (h : F_X6_pairs v0 S = some (r, S')) : Call g l uX6_pairs [.int v0] S (cvI r) S' := by
  refine call_of (by decide +kernel) hl rfl (Nat.le_of_ble_eq_true rfl) ?_
  show Run g l uX6_pairs _ 0 [(0, .int v0)] [] 0 0 S
  unfold F_X6_pairs at h
  refine r_iload_n dX6_pairs_0 rfl 0 rfl ?_
  refine r_iload_n dX6_pairs_1 rfl 0 rfl ?_
  refine r_iconst (v := (1 : Int32)) dX6_pairs_2 (by decide) ?_
  refine r_iadd dX6_pairs_3 ?_
  refine r_imul dX6_pairs_4 ?_
  refine r_iconst (v := (2 : Int32)) dX6_pairs_5 (by decide) ?_
  obtain ⟨t1, h0, h⟩ := bd h
  refine q_idiv h0 dX6_pairs_6 ?_
  cases h
  exact r_ireturn dX6_pairs_7 rfl rfl (by decide) (by decide)

def F_X6_reference_L70 : Nat → Nat → Int64 → Int32 → Mem → Option (Int32 × Mem)
  | 0, _, _, _, _ => none
  | fu + 1, v0, v1, v5, S =>
    if v5 < 0 then
      (pgI 6 2 S v0).bind fun t2 =>
      some (t2, S)
    else
      (pgI 6 2 S v0).bind fun t3 =>
      (ppI 6 2 S v0 (t3 + (1 : Int32))).bind fun S4 =>
      (pgR 6 1 S4 v0).bind fun t5 =>
      (pgI 6 2 S4 v0).bind fun t6 =>
      (psI S4 t5 t6 (((v1 >>> (((2 : Int32) * v5).toInt64 &&& 63)) &&& (3 : Int64)).toInt32)).bind fun S7 =>
      F_X6_reference_L70 fu v0 v1 (v5 + (-1)) S7
set_option maxRecDepth 100000 in
theorem T_X6_reference_L70 {g : GG} {l : Launch} (hl : l.stackTraces = false) {S' : Mem} {r : Int32}  : ∀ (fu : Nat) (v0 : Nat) (v1 : Int64) (v5 : Int32) (S : Mem), F_X6_reference_L70 fu v0 v1 v5 S = some (r, S') → Run g l uX6_reference (fin g uX6_reference (cvI r) S') 70 [(0, .ref v0), (1, .long v1), (5, .int v5)] [] 0 0 S := by
  intro fu
  induction fu with
  | zero =>
    intro v0 v1 v5 S h
    cases (show none = some _ from h)
  | succ fu ih =>
    intro v0 v1 v5 S h
    unfold F_X6_reference_L70 at h
    refine r_iload dX6_reference_70 2 rfl ?_
    refine r_if_lt (tgt := 111) dX6_reference_72 (by decide) (fun c1 => ?_) (fun c1 => ?_)
    · rw [if_pos c1] at h
      refine r_aload_n dX6_reference_111 rfl 0 rfl ?_
      obtain ⟨t2, h0, h⟩ := bd h
      refine q_getI h0 dX6_reference_112 fl6_37 rfl ?_
      cases h
      exact r_ireturn dX6_reference_115 rfl rfl (by decide) (by decide)
    · rw [if_neg c1] at h
      refine r_aload_n dX6_reference_75 rfl 0 rfl ?_
      refine r_dup dX6_reference_76 rfl ?_
      obtain ⟨t3, h0, h⟩ := bd h
      refine q_getI h0 dX6_reference_77 fl6_37 rfl ?_
      refine r_iconst (v := (1 : Int32)) dX6_reference_80 (by decide) ?_
      refine r_iadd dX6_reference_81 ?_
      obtain ⟨S4, h0, h⟩ := bd h
      refine q_putI h0 dX6_reference_82 fl6_37 rfl ?_
      refine r_aload_n dX6_reference_85 rfl 0 rfl ?_
      obtain ⟨t5, h0, h⟩ := bd h
      refine q_getR h0 dX6_reference_86 fl6_7 rfl ?_
      refine r_aload_n dX6_reference_89 rfl 0 rfl ?_
      obtain ⟨t6, h0, h⟩ := bd h
      refine q_getI h0 dX6_reference_90 fl6_37 rfl ?_
      refine r_lload_n dX6_reference_93 rfl 1 rfl ?_
      refine r_iconst (v := (2 : Int32)) dX6_reference_94 (by decide) ?_
      refine r_iload dX6_reference_95 2 rfl ?_
      refine r_imul dX6_reference_97 ?_
      refine r_lshr dX6_reference_98 ?_
      refine r_ldc2 dX6_reference_99 wl6_51 ?_
      refine r_land dX6_reference_102 ?_
      refine r_l2i dX6_reference_103 ?_
      obtain ⟨S7, h0, h⟩ := bd h
      refine q_iastore h0 dX6_reference_104 ?_
      refine r_iinc (v := v5 + (-1)) (lv' := [(5, .int (v5 + (-1))), (0, .ref v0), (1, .long v1)]) dX6_reference_105 2 rfl rfl (by decide) rfl ?_
      refine r_goto (tgt := 70) dX6_reference_108 (by decide) ?_
      refine r_sub [1, 2, 0] rfl ?_
      exact ih v0 v1 (v5 + (-1)) S7 h

def F_X6_reference_J57 (v0 : Nat) (v1 : Int64) (v3 : Int32) (s0 : Nat) (s1 : Int32) (s2 : Int32) (S : Mem) : Option (Int32 × Mem) :=
    (pk 6 S s0).bind fun _ =>
    bd2 (F_X6_throwing s0 s1 s2 S) fun t9 S10 =>
    if t9 = 0 then
      F_X6_reference_L70 FU v0 v1 (v3 - (1 : Int32)) S10
    else
      some ((0 : Int32), S10)
set_option maxRecDepth 100000 in
theorem T_X6_reference_J57 {g : GG} {l : Launch} (hl : l.stackTraces = false) {S' : Mem} {r : Int32}  : ∀ (v0 : Nat) (v1 : Int64) (v3 : Int32) (s0 : Nat) (s1 : Int32) (s2 : Int32) (S : Mem), F_X6_reference_J57 v0 v1 v3 s0 s1 s2 S = some (r, S') → Run g l uX6_reference (fin g uX6_reference (cvI r) S') 57 [(0, .ref v0), (1, .long v1), (3, .int v3)] [.int s2, .int s1, .ref s0] 0 0 S := by
  intro v0 v1 v3 s0 s1 s2 S h
  unfold F_X6_reference_J57 at h
  obtain ⟨z8, hk, h⟩ := bd h
  obtain ⟨t9, S10, h0, h⟩ := bd2_s h
  refine r_invV (As := [.int s1, .int s2]) (st := []) dX6_reference_57 lv6_47 (by unfold RM; decide) (Nat.le_of_ble_eq_true rfl) rfl rfl (pk_ok hk) (T_X6_throwing hl h0) ?_
  refine r_if_eq (tgt := 65) dX6_reference_60 (by decide) (fun c11 => ?_) (fun c11 => ?_)
  · rw [if_pos c11] at h
    refine r_iload_n dX6_reference_65 rfl 2 rfl ?_
    refine r_iconst (v := (1 : Int32)) dX6_reference_66 (by decide) ?_
    refine r_isub dX6_reference_67 ?_
    refine r_istore (lv' := [(5, .int (v3 - (1 : Int32))), (0, .ref v0), (1, .long v1), (3, .int v3)]) dX6_reference_68 (by decide) rfl ?_
    refine r_sub [1, 2, 0] rfl ?_
    exact T_X6_reference_L70 hl FU v0 v1 (v3 - (1 : Int32)) S10 h
  · rw [if_neg c11] at h
    refine r_iconst (v := (0 : Int32)) dX6_reference_63 (by decide) ?_
    cases h
    exact r_ireturn dX6_reference_64 rfl rfl (by decide) (by decide)

def F_X6_reference_J56 (v0 : Nat) (v1 : Int64) (v3 : Int32) (s0 : Nat) (s1 : Int32) (S : Mem) : Option (Int32 × Mem) :=
    F_X6_reference_J57 v0 v1 v3 s0 s1 (0 : Int32) S
set_option maxRecDepth 100000 in
theorem T_X6_reference_J56 {g : GG} {l : Launch} (hl : l.stackTraces = false) {S' : Mem} {r : Int32}  : ∀ (v0 : Nat) (v1 : Int64) (v3 : Int32) (s0 : Nat) (s1 : Int32) (S : Mem), F_X6_reference_J56 v0 v1 v3 s0 s1 S = some (r, S') → Run g l uX6_reference (fin g uX6_reference (cvI r) S') 56 [(0, .ref v0), (1, .long v1), (3, .int v3)] [.int s1, .ref s0] 0 0 S := by
  intro v0 v1 v3 s0 s1 S h
  unfold F_X6_reference_J56 at h
  refine r_iconst (v := (0 : Int32)) dX6_reference_56 (by decide) ?_
  exact T_X6_reference_J57 hl v0 v1 v3 s0 s1 (0 : Int32) S h

def F_X6_reference_J52 (v0 : Nat) (v1 : Int64) (v3 : Int32) (s0 : Nat) (s1 : Int32) (S : Mem) : Option (Int32 × Mem) :=
    F_X6_reference_J57 v0 v1 v3 s0 s1 (1 : Int32) S
set_option maxRecDepth 100000 in
theorem T_X6_reference_J52 {g : GG} {l : Launch} (hl : l.stackTraces = false) {S' : Mem} {r : Int32}  : ∀ (v0 : Nat) (v1 : Int64) (v3 : Int32) (s0 : Nat) (s1 : Int32) (S : Mem), F_X6_reference_J52 v0 v1 v3 s0 s1 S = some (r, S') → Run g l uX6_reference (fin g uX6_reference (cvI r) S') 52 [(0, .ref v0), (1, .long v1), (3, .int v3)] [.int s1, .ref s0] 0 0 S := by
  intro v0 v1 v3 s0 s1 S h
  unfold F_X6_reference_J52 at h
  refine r_iconst (v := (1 : Int32)) dX6_reference_52 (by decide) ?_
  refine r_goto (tgt := 57) dX6_reference_53 (by decide) ?_
  exact T_X6_reference_J57 hl v0 v1 v3 s0 s1 (1 : Int32) S h

def F_X6_reference_J16 (v0 : Nat) (v1 : Int64) (v3 : Int32) (s0 : Int32) (S : Mem) : Option (Int32 × Mem) :=
    if s0 = 0 then
      (pgI 6 2 S v0).bind fun t13 =>
      if (160 : Int32) < (t13 + v3) then
        F_X6_reference_J52 v0 v1 v3 v0 s0 S
      else
        (pgI 6 3 S v0).bind fun t15 =>
        if t15 = 0 then
          (pgI 6 4 S v0).bind fun t17 =>
          if t17 ≤ 0 then
            F_X6_reference_J56 v0 v1 v3 v0 s0 S
          else
            F_X6_reference_J52 v0 v1 v3 v0 s0 S
        else
          F_X6_reference_J52 v0 v1 v3 v0 s0 S
    else
      F_X6_reference_J56 v0 v1 v3 v0 s0 S
set_option maxRecDepth 100000 in
theorem T_X6_reference_J16 {g : GG} {l : Launch} (hl : l.stackTraces = false) {S' : Mem} {r : Int32}  : ∀ (v0 : Nat) (v1 : Int64) (v3 : Int32) (s0 : Int32) (S : Mem), F_X6_reference_J16 v0 v1 v3 s0 S = some (r, S') → Run g l uX6_reference (fin g uX6_reference (cvI r) S') 16 [(0, .ref v0), (1, .long v1), (3, .int v3)] [.int s0] 0 0 S := by
  intro v0 v1 v3 s0 S h
  unfold F_X6_reference_J16 at h
  refine r_istore (lv' := [(4, .int s0), (0, .ref v0), (1, .long v1), (3, .int v3)]) dX6_reference_16 (by decide) rfl ?_
  refine r_aload_n dX6_reference_18 rfl 1 rfl ?_
  refine r_iload dX6_reference_19 0 rfl ?_
  refine r_iload dX6_reference_21 0 rfl ?_
  refine r_if_ne (tgt := 56) dX6_reference_23 (by decide) (fun c12 => ?_) (fun c12 => ?_)
  · rw [if_neg c12] at h
    refine r_sub [1, 2, 3] rfl ?_
    exact T_X6_reference_J56 hl v0 v1 v3 v0 s0 S h
  · rw [if_pos c12] at h
    refine r_aload_n dX6_reference_26 rfl 1 rfl ?_
    obtain ⟨t13, h0, h⟩ := bd h
    refine q_getI h0 dX6_reference_27 fl6_37 rfl ?_
    refine r_iload_n dX6_reference_30 rfl 3 rfl ?_
    refine r_iadd dX6_reference_31 ?_
    refine r_sipush (v := (160 : Int32)) dX6_reference_32 (by decide) ?_
    refine r_icmp_gt (tgt := 52) dX6_reference_35 (by decide) (fun c14 => ?_) (fun c14 => ?_)
    · rw [if_pos c14] at h
      refine r_sub [1, 2, 3] rfl ?_
      exact T_X6_reference_J52 hl v0 v1 v3 v0 s0 S h
    · rw [if_neg c14] at h
      refine r_aload_n dX6_reference_38 rfl 1 rfl ?_
      obtain ⟨t15, h0, h⟩ := bd h
      refine q_getI h0 dX6_reference_39 fl6_40 rfl ?_
      refine r_if_ne (tgt := 52) dX6_reference_42 (by decide) (fun c16 => ?_) (fun c16 => ?_)
      · rw [if_neg c16] at h
        refine r_sub [1, 2, 3] rfl ?_
        exact T_X6_reference_J52 hl v0 v1 v3 v0 s0 S h
      · rw [if_pos c16] at h
        refine r_aload_n dX6_reference_45 rfl 1 rfl ?_
        obtain ⟨t17, h0, h⟩ := bd h
        refine q_getI h0 dX6_reference_46 fl6_44 rfl ?_
        refine r_if_le (tgt := 56) dX6_reference_49 (by decide) (fun c18 => ?_) (fun c18 => ?_)
        · rw [if_pos c18] at h
          refine r_sub [1, 2, 3] rfl ?_
          exact T_X6_reference_J56 hl v0 v1 v3 v0 s0 S h
        · rw [if_neg c18] at h
          refine r_sub [1, 2, 3] rfl ?_
          exact T_X6_reference_J52 hl v0 v1 v3 v0 s0 S h

def F_X6_reference_J11 (v0 : Nat) (v1 : Int64) (v3 : Int32) (S : Mem) : Option (Int32 × Mem) :=
    F_X6_reference_J16 v0 v1 v3 (1 : Int32) S
set_option maxRecDepth 100000 in
theorem T_X6_reference_J11 {g : GG} {l : Launch} (hl : l.stackTraces = false) {S' : Mem} {r : Int32}  : ∀ (v0 : Nat) (v1 : Int64) (v3 : Int32) (S : Mem), F_X6_reference_J11 v0 v1 v3 S = some (r, S') → Run g l uX6_reference (fin g uX6_reference (cvI r) S') 11 [(0, .ref v0), (1, .long v1), (3, .int v3)] [] 0 0 S := by
  intro v0 v1 v3 S h
  unfold F_X6_reference_J11 at h
  refine r_iconst (v := (1 : Int32)) dX6_reference_11 (by decide) ?_
  refine r_goto (tgt := 16) dX6_reference_12 (by decide) ?_
  exact T_X6_reference_J16 hl v0 v1 v3 (1 : Int32) S h

def F_X6_reference (v0 : Nat) (v1 : Int64) (v3 : Int32) (S : Mem) : Option (Int32 × Mem) :=
    if v3 < (1 : Int32) then
      F_X6_reference_J11 v0 v1 v3 S
    else
      if v3 ≤ (16 : Int32) then
        F_X6_reference_J16 v0 v1 v3 (0 : Int32) S
      else
        F_X6_reference_J11 v0 v1 v3 S
set_option maxRecDepth 100000 in
theorem T_X6_reference {g : GG} {l : Launch} (hl : l.stackTraces = false) {v0 : Nat} {v1 : Int64} {v3 : Int32} {S S' : Mem} {r : Int32} (h : F_X6_reference v0 v1 v3 S = some (r, S')) : Call g l uX6_reference [.ref v0, .long v1, .int v3] S (cvI r) S' := by
  refine call_of (by decide +kernel) hl rfl (Nat.le_of_ble_eq_true rfl) ?_
  show Run g l uX6_reference _ 0 [(0, .ref v0), (1, .long v1), (3, .int v3)] [] 0 0 S
  unfold F_X6_reference at h
  refine r_iload_n dX6_reference_0 rfl 2 rfl ?_
  refine r_iconst (v := (1 : Int32)) dX6_reference_1 (by decide) ?_
  refine r_icmp_lt (tgt := 11) dX6_reference_2 (by decide) (fun c19 => ?_) (fun c19 => ?_)
  · rw [if_pos c19] at h
    exact T_X6_reference_J11 hl v0 v1 v3 S h
  · rw [if_neg c19] at h
    refine r_iload_n dX6_reference_5 rfl 2 rfl ?_
    refine r_bipush (v := (16 : Int32)) dX6_reference_6 (by decide) ?_
    refine r_icmp_le (tgt := 15) dX6_reference_8 (by decide) (fun c20 => ?_) (fun c20 => ?_)
    · rw [if_pos c20] at h
      refine r_iconst (v := (0 : Int32)) dX6_reference_15 (by decide) ?_
      exact T_X6_reference_J16 hl v0 v1 v3 (0 : Int32) S h
    · rw [if_neg c20] at h
      exact T_X6_reference_J11 hl v0 v1 v3 S h

def F_X6_draft_J33 (v0 : Nat) (v1 : Int32) (v2 : Int32) (s0 : Int32) (S : Mem) : Option Mem :=
    (pk 6 S v0).bind fun _ =>
    bd2 (F_X6_throwing v0 s0 (0 : Int32) S) fun t2 S3 =>
    if t2 = 0 then
      (ppZ 6 3 S3 v0 (1 : Int32)).bind fun S5 =>
      (pk 6 S5 v0).bind fun _ =>
      (F_X6_empty v0 (24 : Int32) v1 S5).bind fun S8 =>
      (pk 6 S8 v0).bind fun _ =>
      bd2 (F_X6_referenceFrom v0 v1 v2 S8) fun t10 S11 =>
      (pk 6 S11 v0).bind fun _ =>
      (F_X6_addAllele v0 (24 : Int32) v2 t10 S11).bind fun S14 =>
      some S14
    else
      some S3
set_option maxRecDepth 100000 in
theorem T_X6_draft_J33 {g : GG} {l : Launch} (hl : l.stackTraces = false) {S' : Mem}  : ∀ (v0 : Nat) (v1 : Int32) (v2 : Int32) (s0 : Int32) (S : Mem), F_X6_draft_J33 v0 v1 v2 s0 S = some S' → Run g l uX6_draft (fin g uX6_draft cvV S') 33 [(0, .ref v0), (1, .int v1), (2, .int v2)] [.int s0] 0 0 S := by
  intro v0 v1 v2 s0 S h
  unfold F_X6_draft_J33 at h
  refine r_istore_n (lv' := [(3, .int s0), (0, .ref v0), (1, .int v1), (2, .int v2)]) dX6_draft_33 rfl (by decide) rfl ?_
  refine r_aload_n dX6_draft_34 rfl 1 rfl ?_
  refine r_iload_n dX6_draft_35 rfl 0 rfl ?_
  refine r_iconst (v := (0 : Int32)) dX6_draft_36 (by decide) ?_
  obtain ⟨z1, hk, h⟩ := bd h
  obtain ⟨t2, S3, h0, h⟩ := bd2_s h
  refine r_invV (As := [.int s0, .int ((0 : Int32))]) (st := []) dX6_draft_37 lv6_47 (by unfold RM; decide) (Nat.le_of_ble_eq_true rfl) rfl rfl (pk_ok hk) (T_X6_throwing hl h0) ?_
  refine r_if_eq (tgt := 44) dX6_draft_40 (by decide) (fun c4 => ?_) (fun c4 => ?_)
  · rw [if_pos c4] at h
    refine r_aload_n dX6_draft_44 rfl 1 rfl ?_
    refine r_iconst (v := (1 : Int32)) dX6_draft_45 (by decide) ?_
    obtain ⟨S5, h0, h⟩ := bd h
    refine q_putZ h0 dX6_draft_46 fl6_40 rfl ?_
    refine r_aload_n dX6_draft_49 rfl 1 rfl ?_
    refine r_bipush (v := (24 : Int32)) dX6_draft_50 (by decide) ?_
    refine r_iload_n dX6_draft_52 rfl 2 rfl ?_
    obtain ⟨z6, hk, h⟩ := bd h
    obtain ⟨S8, h0, h⟩ := bd h
    refine r_invV (As := [.int ((24 : Int32)), .int v1]) (st := []) dX6_draft_53 lv6_53 (by unfold RM; decide) (Nat.le_of_ble_eq_true rfl) rfl rfl (pk_ok hk) (T_X6_empty hl h0) ?_
    refine r_aload_n dX6_draft_56 rfl 1 rfl ?_
    refine r_bipush (v := (24 : Int32)) dX6_draft_57 (by decide) ?_
    refine r_iload_n dX6_draft_59 rfl 3 rfl ?_
    refine r_aload_n dX6_draft_60 rfl 1 rfl ?_
    refine r_iload_n dX6_draft_61 rfl 2 rfl ?_
    refine r_iload_n dX6_draft_62 rfl 3 rfl ?_
    obtain ⟨z9, hk, h⟩ := bd h
    obtain ⟨t10, S11, h0, h⟩ := bd2_s h
    refine r_invV (As := [.int v1, .int v2]) (st := [.int v2, .int ((24 : Int32)), .ref v0]) dX6_draft_63 lv6_57 (by unfold RM; decide) (Nat.le_of_ble_eq_true rfl) rfl rfl (pk_ok hk) (T_X6_referenceFrom hl h0) ?_
    obtain ⟨z12, hk, h⟩ := bd h
    obtain ⟨S14, h0, h⟩ := bd h
    refine r_invV (As := [.int ((24 : Int32)), .int v2, .int t10]) (st := []) dX6_draft_66 lv6_60 (by unfold RM; decide) (Nat.le_of_ble_eq_true rfl) rfl rfl (pk_ok hk) (T_X6_addAllele hl h0) ?_
    cases h
    exact r_return dX6_draft_69 rfl (by decide) (by decide)
  · rw [if_neg c4] at h
    cases h
    exact r_return dX6_draft_43 rfl (by decide) (by decide)

def F_X6_draft_J28 (v0 : Nat) (v1 : Int32) (v2 : Int32) (S : Mem) : Option Mem :=
    F_X6_draft_J33 v0 v1 v2 (1 : Int32) S
set_option maxRecDepth 100000 in
theorem T_X6_draft_J28 {g : GG} {l : Launch} (hl : l.stackTraces = false) {S' : Mem}  : ∀ (v0 : Nat) (v1 : Int32) (v2 : Int32) (S : Mem), F_X6_draft_J28 v0 v1 v2 S = some S' → Run g l uX6_draft (fin g uX6_draft cvV S') 28 [(0, .ref v0), (1, .int v1), (2, .int v2)] [] 0 0 S := by
  intro v0 v1 v2 S h
  unfold F_X6_draft_J28 at h
  refine r_iconst (v := (1 : Int32)) dX6_draft_28 (by decide) ?_
  refine r_goto (tgt := 33) dX6_draft_29 (by decide) ?_
  exact T_X6_draft_J33 hl v0 v1 v2 (1 : Int32) S h

def F_X6_draft (v0 : Nat) (v1 : Int32) (v2 : Int32) (S : Mem) : Option Mem :=
    if v2 < (1 : Int32) then
      F_X6_draft_J28 v0 v1 v2 S
    else
      if (8 : Int32) < v2 then
        F_X6_draft_J28 v0 v1 v2 S
      else
        if v1 < (1 : Int32) then
          F_X6_draft_J28 v0 v1 v2 S
        else
          (pgI 6 2 S v0).bind fun t18 =>
          if v1 ≤ ((t18 - v2) + (1 : Int32)) then
            F_X6_draft_J33 v0 v1 v2 (0 : Int32) S
          else
            F_X6_draft_J28 v0 v1 v2 S
set_option maxRecDepth 100000 in
theorem T_X6_draft {g : GG} {l : Launch} (hl : l.stackTraces = false) {v0 : Nat} {v1 : Int32} {v2 : Int32} {S S' : Mem} (h : F_X6_draft v0 v1 v2 S = some S') : Call g l uX6_draft [.ref v0, .int v1, .int v2] S cvV S' := by
  refine call_of (by decide +kernel) hl rfl (Nat.le_of_ble_eq_true rfl) ?_
  show Run g l uX6_draft _ 0 [(0, .ref v0), (1, .int v1), (2, .int v2)] [] 0 0 S
  unfold F_X6_draft at h
  refine r_iload_n dX6_draft_0 rfl 2 rfl ?_
  refine r_iconst (v := (1 : Int32)) dX6_draft_1 (by decide) ?_
  refine r_icmp_lt (tgt := 28) dX6_draft_2 (by decide) (fun c15 => ?_) (fun c15 => ?_)
  · rw [if_pos c15] at h
    exact T_X6_draft_J28 hl v0 v1 v2 S h
  · rw [if_neg c15] at h
    refine r_iload_n dX6_draft_5 rfl 2 rfl ?_
    refine r_bipush (v := (8 : Int32)) dX6_draft_6 (by decide) ?_
    refine r_icmp_gt (tgt := 28) dX6_draft_8 (by decide) (fun c16 => ?_) (fun c16 => ?_)
    · rw [if_pos c16] at h
      exact T_X6_draft_J28 hl v0 v1 v2 S h
    · rw [if_neg c16] at h
      refine r_iload_n dX6_draft_11 rfl 1 rfl ?_
      refine r_iconst (v := (1 : Int32)) dX6_draft_12 (by decide) ?_
      refine r_icmp_lt (tgt := 28) dX6_draft_13 (by decide) (fun c17 => ?_) (fun c17 => ?_)
      · rw [if_pos c17] at h
        exact T_X6_draft_J28 hl v0 v1 v2 S h
      · rw [if_neg c17] at h
        refine r_iload_n dX6_draft_16 rfl 1 rfl ?_
        refine r_aload_n dX6_draft_17 rfl 0 rfl ?_
        obtain ⟨t18, h0, h⟩ := bd h
        refine q_getI h0 dX6_draft_18 fl6_37 rfl ?_
        refine r_iload_n dX6_draft_21 rfl 2 rfl ?_
        refine r_isub dX6_draft_22 ?_
        refine r_iconst (v := (1 : Int32)) dX6_draft_23 (by decide) ?_
        refine r_iadd dX6_draft_24 ?_
        refine r_icmp_le (tgt := 32) dX6_draft_25 (by decide) (fun c19 => ?_) (fun c19 => ?_)
        · rw [if_pos c19] at h
          refine r_iconst (v := (0 : Int32)) dX6_draft_32 (by decide) ?_
          exact T_X6_draft_J33 hl v0 v1 v2 (0 : Int32) S h
        · rw [if_neg c19] at h
          exact T_X6_draft_J28 hl v0 v1 v2 S h

def F_X6_allele_J77 (v0 : Nat) (v3 : Int32) (v5 : Int32) (s0 : Nat) (s1 : Int32) (s2 : Int32) (S : Mem) : Option (Int32 × Mem) :=
    (pk 6 S s0).bind fun _ =>
    bd2 (F_X6_throwing s0 s1 s2 S) fun t2 S3 =>
    if t2 = 0 then
      (pk 6 S3 v0).bind fun _ =>
      (F_X6_addAllele v0 (24 : Int32) v3 v5 S3).bind fun S7 =>
      (pk 6 S7 v0).bind fun _ =>
      bd2 (F_X6_get v0 (24 : Int32) (1 : Int32) S7) fun t9 S10 =>
      some (t9 - (1 : Int32), S10)
    else
      some ((0 : Int32), S3)
set_option maxRecDepth 100000 in
theorem T_X6_allele_J77 {g : GG} {l : Launch} (hl : l.stackTraces = false) {S' : Mem} {r : Int32}  : ∀ (v0 : Nat) (v3 : Int32) (v5 : Int32) (s0 : Nat) (s1 : Int32) (s2 : Int32) (S : Mem), F_X6_allele_J77 v0 v3 v5 s0 s1 s2 S = some (r, S') → Run g l uX6_allele (fin g uX6_allele (cvI r) S') 77 [(0, .ref v0), (3, .int v3), (5, .int v5)] [.int s2, .int s1, .ref s0] 0 0 S := by
  intro v0 v3 v5 s0 s1 s2 S h
  unfold F_X6_allele_J77 at h
  obtain ⟨z1, hk, h⟩ := bd h
  obtain ⟨t2, S3, h0, h⟩ := bd2_s h
  refine r_invV (As := [.int s1, .int s2]) (st := []) dX6_allele_77 lv6_47 (by unfold RM; decide) (Nat.le_of_ble_eq_true rfl) rfl rfl (pk_ok hk) (T_X6_throwing hl h0) ?_
  refine r_if_eq (tgt := 85) dX6_allele_80 (by decide) (fun c4 => ?_) (fun c4 => ?_)
  · rw [if_pos c4] at h
    refine r_aload_n dX6_allele_85 rfl 0 rfl ?_
    refine r_bipush (v := (24 : Int32)) dX6_allele_86 (by decide) ?_
    refine r_iload_n dX6_allele_88 rfl 1 rfl ?_
    refine r_iload dX6_allele_89 2 rfl ?_
    obtain ⟨z5, hk, h⟩ := bd h
    obtain ⟨S7, h0, h⟩ := bd h
    refine r_invV (As := [.int ((24 : Int32)), .int v3, .int v5]) (st := []) dX6_allele_91 lv6_60 (by unfold RM; decide) (Nat.le_of_ble_eq_true rfl) rfl rfl (pk_ok hk) (T_X6_addAllele hl h0) ?_
    refine r_aload_n dX6_allele_94 rfl 0 rfl ?_
    refine r_bipush (v := (24 : Int32)) dX6_allele_95 (by decide) ?_
    refine r_iconst (v := (1 : Int32)) dX6_allele_97 (by decide) ?_
    obtain ⟨z8, hk, h⟩ := bd h
    obtain ⟨t9, S10, h0, h⟩ := bd2_s h
    refine r_invV (As := [.int ((24 : Int32)), .int ((1 : Int32))]) (st := []) dX6_allele_98 lv6_33 (by unfold RM; decide) (Nat.le_of_ble_eq_true rfl) rfl rfl (pk_ok hk) (T_X6_get hl h0) ?_
    refine r_iconst (v := (1 : Int32)) dX6_allele_101 (by decide) ?_
    refine r_isub dX6_allele_102 ?_
    cases h
    exact r_ireturn dX6_allele_103 rfl rfl (by decide) (by decide)
  · rw [if_neg c4] at h
    refine r_iconst (v := (0 : Int32)) dX6_allele_83 (by decide) ?_
    cases h
    exact r_ireturn dX6_allele_84 rfl rfl (by decide) (by decide)

def F_X6_allele_J72 (v0 : Nat) (v3 : Int32) (v5 : Int32) (s0 : Nat) (s1 : Int32) (S : Mem) : Option (Int32 × Mem) :=
    F_X6_allele_J77 v0 v3 v5 s0 s1 (1 : Int32) S
set_option maxRecDepth 100000 in
theorem T_X6_allele_J72 {g : GG} {l : Launch} (hl : l.stackTraces = false) {S' : Mem} {r : Int32}  : ∀ (v0 : Nat) (v3 : Int32) (v5 : Int32) (s0 : Nat) (s1 : Int32) (S : Mem), F_X6_allele_J72 v0 v3 v5 s0 s1 S = some (r, S') → Run g l uX6_allele (fin g uX6_allele (cvI r) S') 72 [(0, .ref v0), (3, .int v3), (5, .int v5)] [.int s1, .ref s0] 0 0 S := by
  intro v0 v3 v5 s0 s1 S h
  unfold F_X6_allele_J72 at h
  refine r_iconst (v := (1 : Int32)) dX6_allele_72 (by decide) ?_
  refine r_goto (tgt := 77) dX6_allele_73 (by decide) ?_
  exact T_X6_allele_J77 hl v0 v3 v5 s0 s1 (1 : Int32) S h

def F_X6_allele_J37 (v0 : Nat) (v3 : Int32) (v4 : Int32) (s0 : Int32) (S : Mem) : Option (Int32 × Mem) :=
    (pgI 6 3 S v0).bind fun t11 =>
    if t11 = 0 then
      F_X6_allele_J72 v0 v3 s0 v0 v4 S
    else
      (pk 6 S v0).bind fun _ =>
      bd2 (F_X6_get v0 (24 : Int32) (1 : Int32) S) fun t14 S15 =>
      if t14 = (4 : Int32) then
        F_X6_allele_J72 v0 v3 s0 v0 v4 S15
      else
        (pk 6 S15 v0).bind fun _ =>
        bd2 (F_X6_findAllele v0 (24 : Int32) v3 s0 S15) fun t18 S19 =>
        if t18 < 0 then
          F_X6_allele_J77 v0 v3 s0 v0 v4 (0 : Int32) S19
        else
          F_X6_allele_J72 v0 v3 s0 v0 v4 S19
set_option maxRecDepth 100000 in
theorem T_X6_allele_J37 {g : GG} {l : Launch} (hl : l.stackTraces = false) {S' : Mem} {r : Int32}  : ∀ (v0 : Nat) (v3 : Int32) (v4 : Int32) (s0 : Int32) (S : Mem), F_X6_allele_J37 v0 v3 v4 s0 S = some (r, S') → Run g l uX6_allele (fin g uX6_allele (cvI r) S') 37 [(0, .ref v0), (3, .int v3), (4, .int v4)] [.int s0] 0 0 S := by
  intro v0 v3 v4 s0 S h
  unfold F_X6_allele_J37 at h
  refine r_istore (lv' := [(5, .int s0), (0, .ref v0), (3, .int v3), (4, .int v4)]) dX6_allele_37 (by decide) rfl ?_
  refine r_aload_n dX6_allele_39 rfl 1 rfl ?_
  refine r_iload dX6_allele_40 3 rfl ?_
  refine r_aload_n dX6_allele_42 rfl 1 rfl ?_
  obtain ⟨t11, h0, h⟩ := bd h
  refine q_getI h0 dX6_allele_43 fl6_40 rfl ?_
  refine r_if_eq (tgt := 72) dX6_allele_46 (by decide) (fun c12 => ?_) (fun c12 => ?_)
  · rw [if_pos c12] at h
    refine r_sub [1, 2, 0] rfl ?_
    exact T_X6_allele_J72 hl v0 v3 s0 v0 v4 S h
  · rw [if_neg c12] at h
    refine r_aload_n dX6_allele_49 rfl 1 rfl ?_
    refine r_bipush (v := (24 : Int32)) dX6_allele_50 (by decide) ?_
    refine r_iconst (v := (1 : Int32)) dX6_allele_52 (by decide) ?_
    obtain ⟨z13, hk, h⟩ := bd h
    obtain ⟨t14, S15, h0, h⟩ := bd2_s h
    refine r_invV (As := [.int ((24 : Int32)), .int ((1 : Int32))]) (st := [.int v4, .ref v0]) dX6_allele_53 lv6_33 (by unfold RM; decide) (Nat.le_of_ble_eq_true rfl) rfl rfl (pk_ok hk) (T_X6_get hl h0) ?_
    refine r_iconst (v := (4 : Int32)) dX6_allele_56 (by decide) ?_
    refine r_icmp_eq (tgt := 72) dX6_allele_57 (by decide) (fun c16 => ?_) (fun c16 => ?_)
    · rw [if_pos c16] at h
      refine r_sub [1, 2, 0] rfl ?_
      exact T_X6_allele_J72 hl v0 v3 s0 v0 v4 S15 h
    · rw [if_neg c16] at h
      refine r_aload_n dX6_allele_60 rfl 1 rfl ?_
      refine r_bipush (v := (24 : Int32)) dX6_allele_61 (by decide) ?_
      refine r_iload_n dX6_allele_63 rfl 2 rfl ?_
      refine r_iload dX6_allele_64 0 rfl ?_
      obtain ⟨z17, hk, h⟩ := bd h
      obtain ⟨t18, S19, h0, h⟩ := bd2_s h
      refine r_invV (As := [.int ((24 : Int32)), .int v3, .int s0]) (st := [.int v4, .ref v0]) dX6_allele_66 lv6_63 (by unfold RM; decide) (Nat.le_of_ble_eq_true rfl) rfl rfl (pk_ok hk) (T_X6_findAllele hl h0) ?_
      refine r_if_lt (tgt := 76) dX6_allele_69 (by decide) (fun c20 => ?_) (fun c20 => ?_)
      · rw [if_pos c20] at h
        refine r_iconst (v := (0 : Int32)) dX6_allele_76 (by decide) ?_
        refine r_sub [1, 2, 0] rfl ?_
        exact T_X6_allele_J77 hl v0 v3 s0 v0 v4 (0 : Int32) S19 h
      · rw [if_neg c20] at h
        refine r_sub [1, 2, 0] rfl ?_
        exact T_X6_allele_J72 hl v0 v3 s0 v0 v4 S19 h

def F_X6_allele_J16 (v0 : Nat) (v1 : Int64) (v3 : Int32) (s0 : Int32) (S : Mem) : Option (Int32 × Mem) :=
    if s0 = 0 then
      F_X6_allele_J37 v0 v3 s0 ((v1 &&& (((1 : Int64) <<< (((2 : Int32) * v3).toInt64 &&& 63)) - (1 : Int64))).toInt32) S
    else
      F_X6_allele_J37 v0 v3 s0 (0 : Int32) S
set_option maxRecDepth 100000 in
theorem T_X6_allele_J16 {g : GG} {l : Launch} (hl : l.stackTraces = false) {S' : Mem} {r : Int32}  : ∀ (v0 : Nat) (v1 : Int64) (v3 : Int32) (s0 : Int32) (S : Mem), F_X6_allele_J16 v0 v1 v3 s0 S = some (r, S') → Run g l uX6_allele (fin g uX6_allele (cvI r) S') 16 [(0, .ref v0), (1, .long v1), (3, .int v3)] [.int s0] 0 0 S := by
  intro v0 v1 v3 s0 S h
  unfold F_X6_allele_J16 at h
  refine r_istore (lv' := [(4, .int s0), (0, .ref v0), (1, .long v1), (3, .int v3)]) dX6_allele_16 (by decide) rfl ?_
  refine r_iload dX6_allele_18 0 rfl ?_
  refine r_if_eq (tgt := 27) dX6_allele_20 (by decide) (fun c21 => ?_) (fun c21 => ?_)
  · rw [if_pos c21] at h
    refine r_lload_n dX6_allele_27 rfl 2 rfl ?_
    refine r_lconst (v := (1 : Int64)) dX6_allele_28 (by decide) ?_
    refine r_iconst (v := (2 : Int32)) dX6_allele_29 (by decide) ?_
    refine r_iload_n dX6_allele_30 rfl 3 rfl ?_
    refine r_imul dX6_allele_31 ?_
    refine r_lshl dX6_allele_32 ?_
    refine r_lconst (v := (1 : Int64)) dX6_allele_33 (by decide) ?_
    refine r_lsub dX6_allele_34 ?_
    refine r_land dX6_allele_35 ?_
    refine r_l2i dX6_allele_36 ?_
    refine r_sub [1, 3, 0] rfl ?_
    exact T_X6_allele_J37 hl v0 v3 s0 ((v1 &&& (((1 : Int64) <<< (((2 : Int32) * v3).toInt64 &&& 63)) - (1 : Int64))).toInt32) S h
  · rw [if_neg c21] at h
    refine r_iconst (v := (0 : Int32)) dX6_allele_23 (by decide) ?_
    refine r_goto (tgt := 37) dX6_allele_24 (by decide) ?_
    refine r_sub [1, 3, 0] rfl ?_
    exact T_X6_allele_J37 hl v0 v3 s0 (0 : Int32) S h

def F_X6_allele_J11 (v0 : Nat) (v1 : Int64) (v3 : Int32) (S : Mem) : Option (Int32 × Mem) :=
    F_X6_allele_J16 v0 v1 v3 (1 : Int32) S
set_option maxRecDepth 100000 in
theorem T_X6_allele_J11 {g : GG} {l : Launch} (hl : l.stackTraces = false) {S' : Mem} {r : Int32}  : ∀ (v0 : Nat) (v1 : Int64) (v3 : Int32) (S : Mem), F_X6_allele_J11 v0 v1 v3 S = some (r, S') → Run g l uX6_allele (fin g uX6_allele (cvI r) S') 11 [(0, .ref v0), (1, .long v1), (3, .int v3)] [] 0 0 S := by
  intro v0 v1 v3 S h
  unfold F_X6_allele_J11 at h
  refine r_iconst (v := (1 : Int32)) dX6_allele_11 (by decide) ?_
  refine r_goto (tgt := 16) dX6_allele_12 (by decide) ?_
  exact T_X6_allele_J16 hl v0 v1 v3 (1 : Int32) S h

def F_X6_allele (v0 : Nat) (v1 : Int64) (v3 : Int32) (S : Mem) : Option (Int32 × Mem) :=
    if v3 < (1 : Int32) then
      F_X6_allele_J11 v0 v1 v3 S
    else
      if v3 ≤ (8 : Int32) then
        F_X6_allele_J16 v0 v1 v3 (0 : Int32) S
      else
        F_X6_allele_J11 v0 v1 v3 S
set_option maxRecDepth 100000 in
theorem T_X6_allele {g : GG} {l : Launch} (hl : l.stackTraces = false) {v0 : Nat} {v1 : Int64} {v3 : Int32} {S S' : Mem} {r : Int32} (h : F_X6_allele v0 v1 v3 S = some (r, S')) : Call g l uX6_allele [.ref v0, .long v1, .int v3] S (cvI r) S' := by
  refine call_of (by decide +kernel) hl rfl (Nat.le_of_ble_eq_true rfl) ?_
  show Run g l uX6_allele _ 0 [(0, .ref v0), (1, .long v1), (3, .int v3)] [] 0 0 S
  unfold F_X6_allele at h
  refine r_iload_n dX6_allele_0 rfl 2 rfl ?_
  refine r_iconst (v := (1 : Int32)) dX6_allele_1 (by decide) ?_
  refine r_icmp_lt (tgt := 11) dX6_allele_2 (by decide) (fun c22 => ?_) (fun c22 => ?_)
  · rw [if_pos c22] at h
    exact T_X6_allele_J11 hl v0 v1 v3 S h
  · rw [if_neg c22] at h
    refine r_iload_n dX6_allele_5 rfl 2 rfl ?_
    refine r_bipush (v := (8 : Int32)) dX6_allele_6 (by decide) ?_
    refine r_icmp_le (tgt := 15) dX6_allele_8 (by decide) (fun c23 => ?_) (fun c23 => ?_)
    · rw [if_pos c23] at h
      refine r_iconst (v := (0 : Int32)) dX6_allele_15 (by decide) ?_
      exact T_X6_allele_J16 hl v0 v1 v3 (0 : Int32) S h
    · rw [if_neg c23] at h
      exact T_X6_allele_J11 hl v0 v1 v3 S h

