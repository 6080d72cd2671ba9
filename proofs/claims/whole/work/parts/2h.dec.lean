def F_X6_records (v0 : Nat) (S : Mem) : Option (Int32 × Mem) :=
    (ppI 6 0 S v0 (0 : Int32)).bind fun S1 =>
    (pgI 6 4 S1 v0).bind fun t2 =>
    some (t2, S1)
set_option maxRecDepth 100000 in
theorem T_X6_records {g : GG} {l : Launch} (hl : l.stackTraces = false) {v0 : Nat} {S S' : Mem} {r : Int32} (h : F_X6_records v0 S = some (r, S')) : Call g l uX6_records [.ref v0] S (cvI r) S' := by
  refine call_of (by decide +kernel) hl rfl (Nat.le_of_ble_eq_true rfl) ?_
  show Run g l uX6_records _ 0 [(0, .ref v0)] [] 0 0 S
  unfold F_X6_records at h
  refine r_aload_n dX6_records_0 rfl 0 rfl ?_
  refine r_iconst (v := (0 : Int32)) dX6_records_1 (by decide) ?_
  obtain ⟨S1, h0, h⟩ := bd h
  refine q_putI h0 dX6_records_2 fl6_25 rfl ?_
  refine r_aload_n dX6_records_5 rfl 0 rfl ?_
  obtain ⟨t2, h0, h⟩ := bd h
  refine q_getI h0 dX6_records_6 fl6_44 rfl ?_
  cases h
  exact r_ireturn dX6_records_9 rfl rfl (by decide) (by decide)

def F_X6_binOf (v0 : Nat) (v1 : Int32) (S : Mem) : Option (Int32 × Mem) :=
    (pk 6 S v0).bind fun _ =>
    bd2 (F_X6_get v0 v1 (0 : Int32) S) fun t2 S3 =>
    (pk 6 S3 v0).bind fun _ =>
    bd2 (F_X6_get v0 v1 (2 : Int32) S3) fun t5 S6 =>
    (pdiv t2 (8 : Int32)).bind fun t7 =>
    (pdiv ((t2 + t5) - (1 : Int32)) (8 : Int32)).bind fun t8 =>
    if t7 = t8 then
      (pdiv t2 (8 : Int32)).bind fun t18 =>
      some ((11 : Int32) + t18, S6)
    else
      (pdiv t2 (32 : Int32)).bind fun t10 =>
      (pdiv ((t2 + t5) - (1 : Int32)) (32 : Int32)).bind fun t11 =>
      if t10 = t11 then
        (pdiv t2 (32 : Int32)).bind fun t17 =>
        some ((3 : Int32) + t17, S6)
      else
        (pdiv t2 (128 : Int32)).bind fun t13 =>
        (pdiv ((t2 + t5) - (1 : Int32)) (128 : Int32)).bind fun t14 =>
        if t13 = t14 then
          (pdiv t2 (128 : Int32)).bind fun t16 =>
          some ((1 : Int32) + t16, S6)
        else
          some ((0 : Int32), S6)
set_option maxRecDepth 100000 in
theorem T_X6_binOf {g : GG} {l : Launch} (hl : l.stackTraces = false) {v0 : Nat} {v1 : Int32} {S S' : Mem} {r : Int32} (h : F_X6_binOf v0 v1 S = some (r, S')) : Call g l uX6_binOf [.ref v0, .int v1] S (cvI r) S' := by
  refine call_of (by decide +kernel) hl rfl (Nat.le_of_ble_eq_true rfl) ?_
  show Run g l uX6_binOf _ 0 [(0, .ref v0), (1, .int v1)] [] 0 0 S
  unfold F_X6_binOf at h
  refine r_aload_n dX6_binOf_0 rfl 0 rfl ?_
  refine r_iload_n dX6_binOf_1 rfl 1 rfl ?_
  refine r_iconst (v := (0 : Int32)) dX6_binOf_2 (by decide) ?_
  obtain ⟨z1, hk, h⟩ := bd h
  obtain ⟨t2, S3, h0, h⟩ := bd2_s h
  refine r_invV (As := [.int v1, .int ((0 : Int32))]) (st := []) dX6_binOf_3 lv6_33 (by unfold RM; decide) (Nat.le_of_ble_eq_true rfl) rfl rfl (pk_ok hk) (T_X6_get hl h0) ?_
  refine r_istore_n (lv' := [(2, .int t2), (0, .ref v0), (1, .int v1)]) dX6_binOf_6 rfl (by decide) rfl ?_
  refine r_iload_n dX6_binOf_7 rfl 0 rfl ?_
  refine r_aload_n dX6_binOf_8 rfl 1 rfl ?_
  refine r_iload_n dX6_binOf_9 rfl 2 rfl ?_
  refine r_iconst (v := (2 : Int32)) dX6_binOf_10 (by decide) ?_
  obtain ⟨z4, hk, h⟩ := bd h
  obtain ⟨t5, S6, h0, h⟩ := bd2_s h
  refine r_invV (As := [.int v1, .int ((2 : Int32))]) (st := [.int t2]) dX6_binOf_11 lv6_33 (by unfold RM; decide) (Nat.le_of_ble_eq_true rfl) rfl rfl (pk_ok hk) (T_X6_get hl h0) ?_
  refine r_iadd dX6_binOf_14 ?_
  refine r_iconst (v := (1 : Int32)) dX6_binOf_15 (by decide) ?_
  refine r_isub dX6_binOf_16 ?_
  refine r_istore_n (lv' := [(3, .int ((t2 + t5) - (1 : Int32))), (2, .int t2), (0, .ref v0), (1, .int v1)]) dX6_binOf_17 rfl (by decide) rfl ?_
  refine r_iload_n dX6_binOf_18 rfl 1 rfl ?_
  refine r_bipush (v := (8 : Int32)) dX6_binOf_19 (by decide) ?_
  obtain ⟨t7, h0, h⟩ := bd h
  refine q_idiv h0 dX6_binOf_21 ?_
  refine r_iload_n dX6_binOf_22 rfl 0 rfl ?_
  refine r_bipush (v := (8 : Int32)) dX6_binOf_23 (by decide) ?_
  obtain ⟨t8, h0, h⟩ := bd h
  refine q_idiv h0 dX6_binOf_25 ?_
  refine r_icmp_ne (tgt := 37) dX6_binOf_26 (by decide) (fun c9 => ?_) (fun c9 => ?_)
  · rw [if_neg c9] at h
    refine r_iload_n dX6_binOf_37 rfl 1 rfl ?_
    refine r_bipush (v := (32 : Int32)) dX6_binOf_38 (by decide) ?_
    obtain ⟨t10, h0, h⟩ := bd h
    refine q_idiv h0 dX6_binOf_40 ?_
    refine r_iload_n dX6_binOf_41 rfl 0 rfl ?_
    refine r_bipush (v := (32 : Int32)) dX6_binOf_42 (by decide) ?_
    obtain ⟨t11, h0, h⟩ := bd h
    refine q_idiv h0 dX6_binOf_44 ?_
    refine r_icmp_ne (tgt := 55) dX6_binOf_45 (by decide) (fun c12 => ?_) (fun c12 => ?_)
    · rw [if_neg c12] at h
      refine r_iload_n dX6_binOf_55 rfl 1 rfl ?_
      refine r_sipush (v := (128 : Int32)) dX6_binOf_56 (by decide) ?_
      obtain ⟨t13, h0, h⟩ := bd h
      refine q_idiv h0 dX6_binOf_59 ?_
      refine r_iload_n dX6_binOf_60 rfl 0 rfl ?_
      refine r_sipush (v := (128 : Int32)) dX6_binOf_61 (by decide) ?_
      obtain ⟨t14, h0, h⟩ := bd h
      refine q_idiv h0 dX6_binOf_64 ?_
      refine r_icmp_ne (tgt := 78) dX6_binOf_65 (by decide) (fun c15 => ?_) (fun c15 => ?_)
      · rw [if_neg c15] at h
        refine r_iconst (v := (0 : Int32)) dX6_binOf_78 (by decide) ?_
        cases h
        exact r_ireturn dX6_binOf_79 rfl rfl (by decide) (by decide)
      · rw [if_pos c15] at h
        refine r_iconst (v := (1 : Int32)) dX6_binOf_68 (by decide) ?_
        refine r_iload_n dX6_binOf_69 rfl 1 rfl ?_
        refine r_sipush (v := (128 : Int32)) dX6_binOf_70 (by decide) ?_
        obtain ⟨t16, h0, h⟩ := bd h
        refine q_idiv h0 dX6_binOf_73 ?_
        refine r_iadd dX6_binOf_74 ?_
        refine r_goto (tgt := 79) dX6_binOf_75 (by decide) ?_
        cases h
        exact r_ireturn dX6_binOf_79 rfl rfl (by decide) (by decide)
    · rw [if_pos c12] at h
      refine r_iconst (v := (3 : Int32)) dX6_binOf_48 (by decide) ?_
      refine r_iload_n dX6_binOf_49 rfl 1 rfl ?_
      refine r_bipush (v := (32 : Int32)) dX6_binOf_50 (by decide) ?_
      obtain ⟨t17, h0, h⟩ := bd h
      refine q_idiv h0 dX6_binOf_52 ?_
      refine r_iadd dX6_binOf_53 ?_
      cases h
      exact r_ireturn dX6_binOf_54 rfl rfl (by decide) (by decide)
  · rw [if_pos c9] at h
    refine r_bipush (v := (11 : Int32)) dX6_binOf_29 (by decide) ?_
    refine r_iload_n dX6_binOf_31 rfl 1 rfl ?_
    refine r_bipush (v := (8 : Int32)) dX6_binOf_32 (by decide) ?_
    obtain ⟨t18, h0, h⟩ := bd h
    refine q_idiv h0 dX6_binOf_34 ?_
    refine r_iadd dX6_binOf_35 ?_
    cases h
    exact r_ireturn dX6_binOf_36 rfl rfl (by decide) (by decide)

def F_X6_about_J25 (v0 : Nat) (v1 : Int32) (v2 : Int32) (s0 : Nat) (s1 : Int32) (S : Mem) : Option (Int32 × Mem) :=
    (pk 6 S s0).bind fun _ =>
    bd2 (F_X6_throwing s0 s1 (0 : Int32) S) fun t2 S3 =>
    if t2 = 0 then
      if v2 = 0 then
        (pk 6 S3 v0).bind fun _ =>
        bd2 (F_X6_get v0 v1 (0 : Int32) S3) fun t22 S23 =>
        some (t22, S23)
      else
        if v2 = (1 : Int32) then
          (pk 6 S3 v0).bind fun _ =>
          bd2 (F_X6_get v0 v1 (1 : Int32) S3) fun t19 S20 =>
          some (t19, S20)
        else
          if v2 = (2 : Int32) then
            (pk 6 S3 v0).bind fun _ =>
            bd2 (F_X6_get v0 v1 (2 : Int32) S3) fun t16 S17 =>
            some (t16, S17)
          else
            if v2 = (3 : Int32) then
              (pk 6 S3 v0).bind fun _ =>
              bd2 (F_X6_get v0 v1 (10 : Int32) S3) fun t13 S14 =>
              some (t13, S14)
            else
              (pk 6 S3 v0).bind fun _ =>
              bd2 (F_X6_binOf v0 v1 S3) fun t10 S11 =>
              some (t10, S11)
    else
      some ((0 : Int32), S3)
set_option maxRecDepth 100000 in
theorem T_X6_about_J25 {g : GG} {l : Launch} (hl : l.stackTraces = false) {S' : Mem} {r : Int32}  : ∀ (v0 : Nat) (v1 : Int32) (v2 : Int32) (s0 : Nat) (s1 : Int32) (S : Mem), F_X6_about_J25 v0 v1 v2 s0 s1 S = some (r, S') → Run g l uX6_about (fin g uX6_about (cvI r) S') 25 [(0, .ref v0), (1, .int v1), (2, .int v2)] [.int s1, .ref s0] 0 0 S := by
  intro v0 v1 v2 s0 s1 S h
  unfold F_X6_about_J25 at h
  refine r_iconst (v := (0 : Int32)) dX6_about_25 (by decide) ?_
  obtain ⟨z1, hk, h⟩ := bd h
  obtain ⟨t2, S3, h0, h⟩ := bd2_s h
  refine r_invV (As := [.int s1, .int ((0 : Int32))]) (st := []) dX6_about_26 lv6_47 (by unfold RM; decide) (Nat.le_of_ble_eq_true rfl) rfl rfl (pk_ok hk) (T_X6_throwing hl h0) ?_
  refine r_if_eq (tgt := 34) dX6_about_29 (by decide) (fun c4 => ?_) (fun c4 => ?_)
  · rw [if_pos c4] at h
    refine r_iload_n dX6_about_34 rfl 2 rfl ?_
    refine r_if_ne (tgt := 47) dX6_about_35 (by decide) (fun c5 => ?_) (fun c5 => ?_)
    · rw [if_neg c5] at h
      refine r_iload_n dX6_about_47 rfl 2 rfl ?_
      refine r_iconst (v := (1 : Int32)) dX6_about_48 (by decide) ?_
      refine r_icmp_ne (tgt := 61) dX6_about_49 (by decide) (fun c6 => ?_) (fun c6 => ?_)
      · rw [if_neg c6] at h
        refine r_iload_n dX6_about_61 rfl 2 rfl ?_
        refine r_iconst (v := (2 : Int32)) dX6_about_62 (by decide) ?_
        refine r_icmp_ne (tgt := 75) dX6_about_63 (by decide) (fun c7 => ?_) (fun c7 => ?_)
        · rw [if_neg c7] at h
          refine r_iload_n dX6_about_75 rfl 2 rfl ?_
          refine r_iconst (v := (3 : Int32)) dX6_about_76 (by decide) ?_
          refine r_icmp_ne (tgt := 90) dX6_about_77 (by decide) (fun c8 => ?_) (fun c8 => ?_)
          · rw [if_neg c8] at h
            refine r_aload_n dX6_about_90 rfl 0 rfl ?_
            refine r_iload_n dX6_about_91 rfl 1 rfl ?_
            obtain ⟨z9, hk, h⟩ := bd h
            obtain ⟨t10, S11, h0, h⟩ := bd2_s h
            refine r_invV (As := [.int v1]) (st := []) dX6_about_92 lv6_160 (by unfold RM; decide) (Nat.le_of_ble_eq_true rfl) rfl rfl (pk_ok hk) (T_X6_binOf hl h0) ?_
            cases h
            exact r_ireturn dX6_about_95 rfl rfl (by decide) (by decide)
          · rw [if_pos c8] at h
            refine r_aload_n dX6_about_80 rfl 0 rfl ?_
            refine r_iload_n dX6_about_81 rfl 1 rfl ?_
            refine r_bipush (v := (10 : Int32)) dX6_about_82 (by decide) ?_
            obtain ⟨z12, hk, h⟩ := bd h
            obtain ⟨t13, S14, h0, h⟩ := bd2_s h
            refine r_invV (As := [.int v1, .int ((10 : Int32))]) (st := []) dX6_about_84 lv6_33 (by unfold RM; decide) (Nat.le_of_ble_eq_true rfl) rfl rfl (pk_ok hk) (T_X6_get hl h0) ?_
            refine r_goto (tgt := 95) dX6_about_87 (by decide) ?_
            cases h
            exact r_ireturn dX6_about_95 rfl rfl (by decide) (by decide)
        · rw [if_pos c7] at h
          refine r_aload_n dX6_about_66 rfl 0 rfl ?_
          refine r_iload_n dX6_about_67 rfl 1 rfl ?_
          refine r_iconst (v := (2 : Int32)) dX6_about_68 (by decide) ?_
          obtain ⟨z15, hk, h⟩ := bd h
          obtain ⟨t16, S17, h0, h⟩ := bd2_s h
          refine r_invV (As := [.int v1, .int ((2 : Int32))]) (st := []) dX6_about_69 lv6_33 (by unfold RM; decide) (Nat.le_of_ble_eq_true rfl) rfl rfl (pk_ok hk) (T_X6_get hl h0) ?_
          refine r_goto (tgt := 95) dX6_about_72 (by decide) ?_
          cases h
          exact r_ireturn dX6_about_95 rfl rfl (by decide) (by decide)
      · rw [if_pos c6] at h
        refine r_aload_n dX6_about_52 rfl 0 rfl ?_
        refine r_iload_n dX6_about_53 rfl 1 rfl ?_
        refine r_iconst (v := (1 : Int32)) dX6_about_54 (by decide) ?_
        obtain ⟨z18, hk, h⟩ := bd h
        obtain ⟨t19, S20, h0, h⟩ := bd2_s h
        refine r_invV (As := [.int v1, .int ((1 : Int32))]) (st := []) dX6_about_55 lv6_33 (by unfold RM; decide) (Nat.le_of_ble_eq_true rfl) rfl rfl (pk_ok hk) (T_X6_get hl h0) ?_
        refine r_goto (tgt := 95) dX6_about_58 (by decide) ?_
        cases h
        exact r_ireturn dX6_about_95 rfl rfl (by decide) (by decide)
    · rw [if_pos c5] at h
      refine r_aload_n dX6_about_38 rfl 0 rfl ?_
      refine r_iload_n dX6_about_39 rfl 1 rfl ?_
      refine r_iconst (v := (0 : Int32)) dX6_about_40 (by decide) ?_
      obtain ⟨z21, hk, h⟩ := bd h
      obtain ⟨t22, S23, h0, h⟩ := bd2_s h
      refine r_invV (As := [.int v1, .int ((0 : Int32))]) (st := []) dX6_about_41 lv6_33 (by unfold RM; decide) (Nat.le_of_ble_eq_true rfl) rfl rfl (pk_ok hk) (T_X6_get hl h0) ?_
      refine r_goto (tgt := 95) dX6_about_44 (by decide) ?_
      cases h
      exact r_ireturn dX6_about_95 rfl rfl (by decide) (by decide)
  · rw [if_neg c4] at h
    refine r_iconst (v := (0 : Int32)) dX6_about_32 (by decide) ?_
    cases h
    exact r_ireturn dX6_about_33 rfl rfl (by decide) (by decide)

def F_X6_about_J20 (v0 : Nat) (v1 : Int32) (v2 : Int32) (s0 : Nat) (S : Mem) : Option (Int32 × Mem) :=
    F_X6_about_J25 v0 v1 v2 s0 (1 : Int32) S
set_option maxRecDepth 100000 in
theorem T_X6_about_J20 {g : GG} {l : Launch} (hl : l.stackTraces = false) {S' : Mem} {r : Int32}  : ∀ (v0 : Nat) (v1 : Int32) (v2 : Int32) (s0 : Nat) (S : Mem), F_X6_about_J20 v0 v1 v2 s0 S = some (r, S') → Run g l uX6_about (fin g uX6_about (cvI r) S') 20 [(0, .ref v0), (1, .int v1), (2, .int v2)] [.ref s0] 0 0 S := by
  intro v0 v1 v2 s0 S h
  unfold F_X6_about_J20 at h
  refine r_iconst (v := (1 : Int32)) dX6_about_20 (by decide) ?_
  refine r_goto (tgt := 25) dX6_about_21 (by decide) ?_
  exact T_X6_about_J25 hl v0 v1 v2 s0 (1 : Int32) S h

def F_X6_about (v0 : Nat) (v1 : Int32) (v2 : Int32) (S : Mem) : Option (Int32 × Mem) :=
    (pgI 6 4 S v0).bind fun t24 =>
    bd2 (F_X6_out v1 t24 S) fun t25 S26 =>
    if t25 = 0 then
      bd2 (F_X6_out v2 (5 : Int32) S26) fun t28 S29 =>
      if t28 = 0 then
        F_X6_about_J25 v0 v1 v2 v0 (0 : Int32) S29
      else
        F_X6_about_J20 v0 v1 v2 v0 S29
    else
      F_X6_about_J20 v0 v1 v2 v0 S26
set_option maxRecDepth 100000 in
theorem T_X6_about {g : GG} {l : Launch} (hl : l.stackTraces = false) {v0 : Nat} {v1 : Int32} {v2 : Int32} {S S' : Mem} {r : Int32} (h : F_X6_about v0 v1 v2 S = some (r, S')) : Call g l uX6_about [.ref v0, .int v1, .int v2] S (cvI r) S' := by
  refine call_of (by decide +kernel) hl rfl (Nat.le_of_ble_eq_true rfl) ?_
  show Run g l uX6_about _ 0 [(0, .ref v0), (1, .int v1), (2, .int v2)] [] 0 0 S
  unfold F_X6_about at h
  refine r_aload_n dX6_about_0 rfl 0 rfl ?_
  refine r_iload_n dX6_about_1 rfl 1 rfl ?_
  refine r_aload_n dX6_about_2 rfl 0 rfl ?_
  obtain ⟨t24, h0, h⟩ := bd h
  refine q_getI h0 dX6_about_3 fl6_44 rfl ?_
  obtain ⟨t25, S26, h0, h⟩ := bd2_s h
  refine r_invS (As := [.int v1, .int t24]) (st := [.ref v0]) dX6_about_6 ls6_67 (by unfold RM; decide) (Nat.le_of_ble_eq_true rfl) rfl rfl (T_X6_out hl h0) ?_
  refine r_if_ne (tgt := 20) dX6_about_9 (by decide) (fun c27 => ?_) (fun c27 => ?_)
  · rw [if_neg c27] at h
    exact T_X6_about_J20 hl v0 v1 v2 v0 S26 h
  · rw [if_pos c27] at h
    refine r_iload_n dX6_about_12 rfl 2 rfl ?_
    refine r_iconst (v := (5 : Int32)) dX6_about_13 (by decide) ?_
    obtain ⟨t28, S29, h0, h⟩ := bd2_s h
    refine r_invS (As := [.int v2, .int ((5 : Int32))]) (st := [.ref v0]) dX6_about_14 ls6_67 (by unfold RM; decide) (Nat.le_of_ble_eq_true rfl) rfl rfl (T_X6_out hl h0) ?_
    refine r_if_eq (tgt := 24) dX6_about_17 (by decide) (fun c30 => ?_) (fun c30 => ?_)
    · rw [if_pos c30] at h
      refine r_iconst (v := (0 : Int32)) dX6_about_24 (by decide) ?_
      exact T_X6_about_J25 hl v0 v1 v2 v0 (0 : Int32) S29 h
    · rw [if_neg c30] at h
      exact T_X6_about_J20 hl v0 v1 v2 v0 S29 h

def F_X6_base_J69 (v0 : Nat) (v1 : Int32) (v2 : Int32) (v3 : Int32) (v5 : Int32) (s0 : Nat) (s1 : Int32) (s2 : Int32) (S : Mem) : Option (Int32 × Mem) :=
    (pk 6 S s0).bind fun _ =>
    bd2 (F_X6_throwing s0 s1 s2 S) fun t2 S3 =>
    if t2 = 0 then
      if 0 ≤ v3 then
        (pk 6 S3 v0).bind fun _ =>
        bd2 (F_X6_get v0 v1 ((6 : Int32) + v2) S3) fun t7 S8 =>
        some ((t7 >>> (((2 : Int32) * ((v5 - (1 : Int32)) - v3)) &&& 31)) &&& (3 : Int32), S8)
      else
        some (v5, S3)
    else
      some ((0 : Int32), S3)
set_option maxRecDepth 100000 in
theorem T_X6_base_J69 {g : GG} {l : Launch} (hl : l.stackTraces = false) {S' : Mem} {r : Int32}  : ∀ (v0 : Nat) (v1 : Int32) (v2 : Int32) (v3 : Int32) (v5 : Int32) (s0 : Nat) (s1 : Int32) (s2 : Int32) (S : Mem), F_X6_base_J69 v0 v1 v2 v3 v5 s0 s1 s2 S = some (r, S') → Run g l uX6_base (fin g uX6_base (cvI r) S') 69 [(0, .ref v0), (1, .int v1), (2, .int v2), (3, .int v3), (5, .int v5)] [.int s2, .int s1, .ref s0] 0 0 S := by
  intro v0 v1 v2 v3 v5 s0 s1 s2 S h
  unfold F_X6_base_J69 at h
  obtain ⟨z1, hk, h⟩ := bd h
  obtain ⟨t2, S3, h0, h⟩ := bd2_s h
  refine r_invV (As := [.int s1, .int s2]) (st := []) dX6_base_69 lv6_47 (by unfold RM; decide) (Nat.le_of_ble_eq_true rfl) rfl rfl (pk_ok hk) (T_X6_throwing hl h0) ?_
  refine r_if_eq (tgt := 77) dX6_base_72 (by decide) (fun c4 => ?_) (fun c4 => ?_)
  · rw [if_pos c4] at h
    refine r_iload_n dX6_base_77 rfl 3 rfl ?_
    refine r_if_ge (tgt := 86) dX6_base_78 (by decide) (fun c5 => ?_) (fun c5 => ?_)
    · rw [if_pos c5] at h
      refine r_aload_n dX6_base_86 rfl 0 rfl ?_
      refine r_iload_n dX6_base_87 rfl 1 rfl ?_
      refine r_bipush (v := (6 : Int32)) dX6_base_88 (by decide) ?_
      refine r_iload_n dX6_base_90 rfl 2 rfl ?_
      refine r_iadd dX6_base_91 ?_
      obtain ⟨z6, hk, h⟩ := bd h
      obtain ⟨t7, S8, h0, h⟩ := bd2_s h
      refine r_invV (As := [.int v1, .int ((6 : Int32) + v2)]) (st := []) dX6_base_92 lv6_33 (by unfold RM; decide) (Nat.le_of_ble_eq_true rfl) rfl rfl (pk_ok hk) (T_X6_get hl h0) ?_
      refine r_iconst (v := (2 : Int32)) dX6_base_95 (by decide) ?_
      refine r_iload dX6_base_96 4 rfl ?_
      refine r_iconst (v := (1 : Int32)) dX6_base_98 (by decide) ?_
      refine r_isub dX6_base_99 ?_
      refine r_iload_n dX6_base_100 rfl 3 rfl ?_
      refine r_isub dX6_base_101 ?_
      refine r_imul dX6_base_102 ?_
      refine r_ishr dX6_base_103 ?_
      refine r_iconst (v := (3 : Int32)) dX6_base_104 (by decide) ?_
      refine r_iand dX6_base_105 ?_
      cases h
      exact r_ireturn dX6_base_106 rfl rfl (by decide) (by decide)
    · rw [if_neg c5] at h
      refine r_iload dX6_base_81 4 rfl ?_
      refine r_goto (tgt := 106) dX6_base_83 (by decide) ?_
      cases h
      exact r_ireturn dX6_base_106 rfl rfl (by decide) (by decide)
  · rw [if_neg c4] at h
    refine r_iconst (v := (0 : Int32)) dX6_base_75 (by decide) ?_
    cases h
    exact r_ireturn dX6_base_76 rfl rfl (by decide) (by decide)

def F_X6_base_J64 (v0 : Nat) (v1 : Int32) (v2 : Int32) (v3 : Int32) (v5 : Int32) (s0 : Nat) (s1 : Int32) (S : Mem) : Option (Int32 × Mem) :=
    F_X6_base_J69 v0 v1 v2 v3 v5 s0 s1 (1 : Int32) S
set_option maxRecDepth 100000 in
theorem T_X6_base_J64 {g : GG} {l : Launch} (hl : l.stackTraces = false) {S' : Mem} {r : Int32}  : ∀ (v0 : Nat) (v1 : Int32) (v2 : Int32) (v3 : Int32) (v5 : Int32) (s0 : Nat) (s1 : Int32) (S : Mem), F_X6_base_J64 v0 v1 v2 v3 v5 s0 s1 S = some (r, S') → Run g l uX6_base (fin g uX6_base (cvI r) S') 64 [(0, .ref v0), (1, .int v1), (2, .int v2), (3, .int v3), (5, .int v5)] [.int s1, .ref s0] 0 0 S := by
  intro v0 v1 v2 v3 v5 s0 s1 S h
  unfold F_X6_base_J64 at h
  refine r_iconst (v := (1 : Int32)) dX6_base_64 (by decide) ?_
  refine r_goto (tgt := 69) dX6_base_65 (by decide) ?_
  exact T_X6_base_J69 hl v0 v1 v2 v3 v5 s0 s1 (1 : Int32) S h

def F_X6_base_J48 (v0 : Nat) (v1 : Int32) (v2 : Int32) (v3 : Int32) (v4 : Int32) (s0 : Int32) (S : Mem) : Option (Int32 × Mem) :=
    if v3 < (-1 : Int32) then
      F_X6_base_J64 v0 v1 v2 v3 s0 v0 v4 S
    else
      if v3 < s0 then
        F_X6_base_J69 v0 v1 v2 v3 s0 v0 v4 (0 : Int32) S
      else
        F_X6_base_J64 v0 v1 v2 v3 s0 v0 v4 S
set_option maxRecDepth 100000 in
theorem T_X6_base_J48 {g : GG} {l : Launch} (hl : l.stackTraces = false) {S' : Mem} {r : Int32}  : ∀ (v0 : Nat) (v1 : Int32) (v2 : Int32) (v3 : Int32) (v4 : Int32) (s0 : Int32) (S : Mem), F_X6_base_J48 v0 v1 v2 v3 v4 s0 S = some (r, S') → Run g l uX6_base (fin g uX6_base (cvI r) S') 48 [(0, .ref v0), (1, .int v1), (2, .int v2), (3, .int v3), (4, .int v4)] [.int s0] 0 0 S := by
  intro v0 v1 v2 v3 v4 s0 S h
  unfold F_X6_base_J48 at h
  refine r_istore (lv' := [(5, .int s0), (0, .ref v0), (1, .int v1), (2, .int v2), (3, .int v3), (4, .int v4)]) dX6_base_48 (by decide) rfl ?_
  refine r_aload_n dX6_base_50 rfl 1 rfl ?_
  refine r_iload dX6_base_51 5 rfl ?_
  refine r_iload_n dX6_base_53 rfl 4 rfl ?_
  refine r_iconst (v := (-1 : Int32)) dX6_base_54 (by decide) ?_
  refine r_icmp_lt (tgt := 64) dX6_base_55 (by decide) (fun c9 => ?_) (fun c9 => ?_)
  · rw [if_pos c9] at h
    refine r_sub [1, 2, 3, 4, 0] rfl ?_
    exact T_X6_base_J64 hl v0 v1 v2 v3 s0 v0 v4 S h
  · rw [if_neg c9] at h
    refine r_iload_n dX6_base_58 rfl 4 rfl ?_
    refine r_iload dX6_base_59 0 rfl ?_
    refine r_icmp_lt (tgt := 68) dX6_base_61 (by decide) (fun c10 => ?_) (fun c10 => ?_)
    · rw [if_pos c10] at h
      refine r_iconst (v := (0 : Int32)) dX6_base_68 (by decide) ?_
      refine r_sub [1, 2, 3, 4, 0] rfl ?_
      exact T_X6_base_J69 hl v0 v1 v2 v3 s0 v0 v4 (0 : Int32) S h
    · rw [if_neg c10] at h
      refine r_sub [1, 2, 3, 4, 0] rfl ?_
      exact T_X6_base_J64 hl v0 v1 v2 v3 s0 v0 v4 S h

def F_X6_base_J29 (v0 : Nat) (v1 : Int32) (v2 : Int32) (v3 : Int32) (s0 : Int32) (S : Mem) : Option (Int32 × Mem) :=
    if s0 = 0 then
      (pk 6 S v0).bind fun _ =>
      bd2 (F_X6_get v0 v1 ((2 : Int32) + v2) S) fun t13 S14 =>
      F_X6_base_J48 v0 v1 v2 v3 s0 t13 S14
    else
      F_X6_base_J48 v0 v1 v2 v3 s0 (0 : Int32) S
set_option maxRecDepth 100000 in
theorem T_X6_base_J29 {g : GG} {l : Launch} (hl : l.stackTraces = false) {S' : Mem} {r : Int32}  : ∀ (v0 : Nat) (v1 : Int32) (v2 : Int32) (v3 : Int32) (s0 : Int32) (S : Mem), F_X6_base_J29 v0 v1 v2 v3 s0 S = some (r, S') → Run g l uX6_base (fin g uX6_base (cvI r) S') 29 [(0, .ref v0), (1, .int v1), (2, .int v2), (3, .int v3)] [.int s0] 0 0 S := by
  intro v0 v1 v2 v3 s0 S h
  unfold F_X6_base_J29 at h
  refine r_istore (lv' := [(4, .int s0), (0, .ref v0), (1, .int v1), (2, .int v2), (3, .int v3)]) dX6_base_29 (by decide) rfl ?_
  refine r_iload dX6_base_31 0 rfl ?_
  refine r_if_eq (tgt := 40) dX6_base_33 (by decide) (fun c11 => ?_) (fun c11 => ?_)
  · rw [if_pos c11] at h
    refine r_aload_n dX6_base_40 rfl 1 rfl ?_
    refine r_iload_n dX6_base_41 rfl 2 rfl ?_
    refine r_iconst (v := (2 : Int32)) dX6_base_42 (by decide) ?_
    refine r_iload_n dX6_base_43 rfl 3 rfl ?_
    refine r_iadd dX6_base_44 ?_
    obtain ⟨z12, hk, h⟩ := bd h
    obtain ⟨t13, S14, h0, h⟩ := bd2_s h
    refine r_invV (As := [.int v1, .int ((2 : Int32) + v2)]) (st := []) dX6_base_45 lv6_33 (by unfold RM; decide) (Nat.le_of_ble_eq_true rfl) rfl rfl (pk_ok hk) (T_X6_get hl h0) ?_
    refine r_sub [1, 2, 3, 4, 0] rfl ?_
    exact T_X6_base_J48 hl v0 v1 v2 v3 s0 t13 S14 h
  · rw [if_neg c11] at h
    refine r_iconst (v := (0 : Int32)) dX6_base_36 (by decide) ?_
    refine r_goto (tgt := 48) dX6_base_37 (by decide) ?_
    refine r_sub [1, 2, 3, 4, 0] rfl ?_
    exact T_X6_base_J48 hl v0 v1 v2 v3 s0 (0 : Int32) S h

def F_X6_base_J24 (v0 : Nat) (v1 : Int32) (v2 : Int32) (v3 : Int32) (S : Mem) : Option (Int32 × Mem) :=
    F_X6_base_J29 v0 v1 v2 v3 (1 : Int32) S
set_option maxRecDepth 100000 in
theorem T_X6_base_J24 {g : GG} {l : Launch} (hl : l.stackTraces = false) {S' : Mem} {r : Int32}  : ∀ (v0 : Nat) (v1 : Int32) (v2 : Int32) (v3 : Int32) (S : Mem), F_X6_base_J24 v0 v1 v2 v3 S = some (r, S') → Run g l uX6_base (fin g uX6_base (cvI r) S') 24 [(0, .ref v0), (1, .int v1), (2, .int v2), (3, .int v3)] [] 0 0 S := by
  intro v0 v1 v2 v3 S h
  unfold F_X6_base_J24 at h
  refine r_iconst (v := (1 : Int32)) dX6_base_24 (by decide) ?_
  refine r_goto (tgt := 29) dX6_base_25 (by decide) ?_
  exact T_X6_base_J29 hl v0 v1 v2 v3 (1 : Int32) S h

def F_X6_base (v0 : Nat) (v1 : Int32) (v2 : Int32) (v3 : Int32) (S : Mem) : Option (Int32 × Mem) :=
    (pgI 6 4 S v0).bind fun t15 =>
    bd2 (F_X6_out v1 t15 S) fun t16 S17 =>
    if t16 = 0 then
      (pk 6 S17 v0).bind fun _ =>
      bd2 (F_X6_get v0 v1 (1 : Int32) S17) fun t20 S21 =>
      bd2 (F_X6_out v2 t20 S21) fun t22 S23 =>
      if t22 = 0 then
        F_X6_base_J29 v0 v1 v2 v3 (0 : Int32) S23
      else
        F_X6_base_J24 v0 v1 v2 v3 S23
    else
      F_X6_base_J24 v0 v1 v2 v3 S17
set_option maxRecDepth 100000 in
theorem T_X6_base {g : GG} {l : Launch} (hl : l.stackTraces = false) {v0 : Nat} {v1 : Int32} {v2 : Int32} {v3 : Int32} {S S' : Mem} {r : Int32} (h : F_X6_base v0 v1 v2 v3 S = some (r, S')) : Call g l uX6_base [.ref v0, .int v1, .int v2, .int v3] S (cvI r) S' := by
  refine call_of (by decide +kernel) hl rfl (Nat.le_of_ble_eq_true rfl) ?_
  show Run g l uX6_base _ 0 [(0, .ref v0), (1, .int v1), (2, .int v2), (3, .int v3)] [] 0 0 S
  unfold F_X6_base at h
  refine r_iload_n dX6_base_0 rfl 1 rfl ?_
  refine r_aload_n dX6_base_1 rfl 0 rfl ?_
  obtain ⟨t15, h0, h⟩ := bd h
  refine q_getI h0 dX6_base_2 fl6_44 rfl ?_
  obtain ⟨t16, S17, h0, h⟩ := bd2_s h
  refine r_invS (As := [.int v1, .int t15]) (st := []) dX6_base_5 ls6_67 (by unfold RM; decide) (Nat.le_of_ble_eq_true rfl) rfl rfl (T_X6_out hl h0) ?_
  refine r_if_ne (tgt := 24) dX6_base_8 (by decide) (fun c18 => ?_) (fun c18 => ?_)
  · rw [if_neg c18] at h
    exact T_X6_base_J24 hl v0 v1 v2 v3 S17 h
  · rw [if_pos c18] at h
    refine r_iload_n dX6_base_11 rfl 2 rfl ?_
    refine r_aload_n dX6_base_12 rfl 0 rfl ?_
    refine r_iload_n dX6_base_13 rfl 1 rfl ?_
    refine r_iconst (v := (1 : Int32)) dX6_base_14 (by decide) ?_
    obtain ⟨z19, hk, h⟩ := bd h
    obtain ⟨t20, S21, h0, h⟩ := bd2_s h
    refine r_invV (As := [.int v1, .int ((1 : Int32))]) (st := [.int v2]) dX6_base_15 lv6_33 (by unfold RM; decide) (Nat.le_of_ble_eq_true rfl) rfl rfl (pk_ok hk) (T_X6_get hl h0) ?_
    obtain ⟨t22, S23, h0, h⟩ := bd2_s h
    refine r_invS (As := [.int v2, .int t20]) (st := []) dX6_base_18 ls6_67 (by unfold RM; decide) (Nat.le_of_ble_eq_true rfl) rfl rfl (T_X6_out hl h0) ?_
    refine r_if_eq (tgt := 28) dX6_base_21 (by decide) (fun c24 => ?_) (fun c24 => ?_)
    · rw [if_pos c24] at h
      refine r_iconst (v := (0 : Int32)) dX6_base_28 (by decide) ?_
      exact T_X6_base_J29 hl v0 v1 v2 v3 (0 : Int32) S23 h
    · rw [if_neg c24] at h
      exact T_X6_base_J24 hl v0 v1 v2 v3 S23 h

def F_X6_isBad_J17  (S : Mem) : Option (Int32 × Mem) :=
    some ((1 : Int32), S)
set_option maxRecDepth 100000 in
theorem T_X6_isBad_J17 {g : GG} {l : Launch} (hl : l.stackTraces = false) {S' : Mem} {r : Int32}  : ∀  (S : Mem), F_X6_isBad_J17  S = some (r, S') → Run g l uX6_isBad (fin g uX6_isBad (cvI r) S') 17 [] [] 0 0 S := by
  intro  S h
  unfold F_X6_isBad_J17 at h
  refine r_iconst (v := (1 : Int32)) dX6_isBad_17 (by decide) ?_
  refine r_goto (tgt := 22) dX6_isBad_18 (by decide) ?_
  cases h
  exact r_ireturn dX6_isBad_22 rfl (by decide) (by decide) (by decide)

def F_X6_isBad (v0 : Nat) (v1 : Int32) (v2 : Int32) (S : Mem) : Option (Int32 × Mem) :=
    if v1 < (1 : Int32) then
      F_X6_isBad_J17  S
    else
      if v2 < v1 then
        F_X6_isBad_J17  S
      else
        if v2 ≤ (255 : Int32) then
          some ((0 : Int32), S)
        else
          F_X6_isBad_J17  S
set_option maxRecDepth 100000 in
theorem T_X6_isBad {g : GG} {l : Launch} (hl : l.stackTraces = false) {v0 : Nat} {v1 : Int32} {v2 : Int32} {S S' : Mem} {r : Int32} (h : F_X6_isBad v0 v1 v2 S = some (r, S')) : Call g l uX6_isBad [.ref v0, .int v1, .int v2] S (cvI r) S' := by
  refine call_of (by decide +kernel) hl rfl (Nat.le_of_ble_eq_true rfl) ?_
  show Run g l uX6_isBad _ 0 [(0, .ref v0), (1, .int v1), (2, .int v2)] [] 0 0 S
  unfold F_X6_isBad at h
  refine r_iload_n dX6_isBad_0 rfl 1 rfl ?_
  refine r_iconst (v := (1 : Int32)) dX6_isBad_1 (by decide) ?_
  refine r_icmp_lt (tgt := 17) dX6_isBad_2 (by decide) (fun c1 => ?_) (fun c1 => ?_)
  · rw [if_pos c1] at h
    refine r_sub [] rfl ?_
    exact T_X6_isBad_J17 hl  S h
  · rw [if_neg c1] at h
    refine r_iload_n dX6_isBad_5 rfl 1 rfl ?_
    refine r_iload_n dX6_isBad_6 rfl 2 rfl ?_
    refine r_icmp_gt (tgt := 17) dX6_isBad_7 (by decide) (fun c2 => ?_) (fun c2 => ?_)
    · rw [if_pos c2] at h
      refine r_sub [] rfl ?_
      exact T_X6_isBad_J17 hl  S h
    · rw [if_neg c2] at h
      refine r_iload_n dX6_isBad_10 rfl 2 rfl ?_
      refine r_sipush (v := (255 : Int32)) dX6_isBad_11 (by decide) ?_
      refine r_icmp_le (tgt := 21) dX6_isBad_14 (by decide) (fun c3 => ?_) (fun c3 => ?_)
      · rw [if_pos c3] at h
        refine r_iconst (v := (0 : Int32)) dX6_isBad_21 (by decide) ?_
        cases h
        exact r_ireturn dX6_isBad_22 rfl (by decide) (by decide) (by decide)
      · rw [if_neg c3] at h
        refine r_sub [] rfl ?_
        exact T_X6_isBad_J17 hl  S h

def F_X6_spans (v0 : Nat) (v1 : Int32) (v2 : Int32) (v3 : Int32) (S : Mem) : Option (Int32 × Mem) :=
    (pk 6 S v0).bind fun _ =>
    bd2 (F_X6_get v0 v1 (0 : Int32) S) fun t2 S3 =>
    if v3 < t2 then
      some ((0 : Int32), S3)
    else
      (pk 6 S3 v0).bind fun _ =>
      bd2 (F_X6_get v0 v1 (0 : Int32) S3) fun t6 S7 =>
      (pk 6 S7 v0).bind fun _ =>
      bd2 (F_X6_get v0 v1 (2 : Int32) S7) fun t9 S10 =>
      if (t6 + t9) ≤ v2 then
        some ((0 : Int32), S10)
      else
        some ((1 : Int32), S10)
set_option maxRecDepth 100000 in
theorem T_X6_spans {g : GG} {l : Launch} (hl : l.stackTraces = false) {v0 : Nat} {v1 : Int32} {v2 : Int32} {v3 : Int32} {S S' : Mem} {r : Int32} (h : F_X6_spans v0 v1 v2 v3 S = some (r, S')) : Call g l uX6_spans [.ref v0, .int v1, .int v2, .int v3] S (cvI r) S' := by
  refine call_of (by decide +kernel) hl rfl (Nat.le_of_ble_eq_true rfl) ?_
  show Run g l uX6_spans _ 0 [(0, .ref v0), (1, .int v1), (2, .int v2), (3, .int v3)] [] 0 0 S
  unfold F_X6_spans at h
  refine r_aload_n dX6_spans_0 rfl 0 rfl ?_
  refine r_iload_n dX6_spans_1 rfl 1 rfl ?_
  refine r_iconst (v := (0 : Int32)) dX6_spans_2 (by decide) ?_
  obtain ⟨z1, hk, h⟩ := bd h
  obtain ⟨t2, S3, h0, h⟩ := bd2_s h
  refine r_invV (As := [.int v1, .int ((0 : Int32))]) (st := []) dX6_spans_3 lv6_33 (by unfold RM; decide) (Nat.le_of_ble_eq_true rfl) rfl rfl (pk_ok hk) (T_X6_get hl h0) ?_
  refine r_iload_n dX6_spans_6 rfl 3 rfl ?_
  refine r_icmp_gt (tgt := 31) dX6_spans_7 (by decide) (fun c4 => ?_) (fun c4 => ?_)
  · rw [if_pos c4] at h
    refine r_iconst (v := (0 : Int32)) dX6_spans_31 (by decide) ?_
    cases h
    exact r_ireturn dX6_spans_32 rfl (by decide) (by decide) (by decide)
  · rw [if_neg c4] at h
    refine r_aload_n dX6_spans_10 rfl 0 rfl ?_
    refine r_iload_n dX6_spans_11 rfl 1 rfl ?_
    refine r_iconst (v := (0 : Int32)) dX6_spans_12 (by decide) ?_
    obtain ⟨z5, hk, h⟩ := bd h
    obtain ⟨t6, S7, h0, h⟩ := bd2_s h
    refine r_invV (As := [.int v1, .int ((0 : Int32))]) (st := []) dX6_spans_13 lv6_33 (by unfold RM; decide) (Nat.le_of_ble_eq_true rfl) rfl rfl (pk_ok hk) (T_X6_get hl h0) ?_
    refine r_aload_n dX6_spans_16 rfl 0 rfl ?_
    refine r_iload_n dX6_spans_17 rfl 1 rfl ?_
    refine r_iconst (v := (2 : Int32)) dX6_spans_18 (by decide) ?_
    obtain ⟨z8, hk, h⟩ := bd h
    obtain ⟨t9, S10, h0, h⟩ := bd2_s h
    refine r_invV (As := [.int v1, .int ((2 : Int32))]) (st := [.int t6]) dX6_spans_19 lv6_33 (by unfold RM; decide) (Nat.le_of_ble_eq_true rfl) rfl rfl (pk_ok hk) (T_X6_get hl h0) ?_
    refine r_iadd dX6_spans_22 ?_
    refine r_iload_n dX6_spans_23 rfl 2 rfl ?_
    refine r_icmp_le (tgt := 31) dX6_spans_24 (by decide) (fun c11 => ?_) (fun c11 => ?_)
    · rw [if_pos c11] at h
      refine r_iconst (v := (0 : Int32)) dX6_spans_31 (by decide) ?_
      cases h
      exact r_ireturn dX6_spans_32 rfl (by decide) (by decide) (by decide)
    · rw [if_neg c11] at h
      refine r_iconst (v := (1 : Int32)) dX6_spans_27 (by decide) ?_
      refine r_goto (tgt := 32) dX6_spans_28 (by decide) ?_
      cases h
      exact r_ireturn dX6_spans_32 rfl (by decide) (by decide) (by decide)

def F_X6_found_J48 (K21 : Nat → Int32 → Int32 → Int32 → Int32 → Mem → Option (Int32 × Mem)) (v0 : Nat) (v1 : Int32) (v2 : Int32) (v4 : Int32) (s0 : Int32) (S : Mem) : Option (Int32 × Mem) :=
    K21 v0 v1 v2 s0 (v4 + 1) S
set_option maxRecDepth 100000 in
theorem T_X6_found_J48 {g : GG} {l : Launch} (hl : l.stackTraces = false) {S' : Mem} {r : Int32}  {K21 : Nat → Int32 → Int32 → Int32 → Int32 → Mem → Option (Int32 × Mem)} (hK21 : ∀ (v0 : Nat) (v1 : Int32) (v2 : Int32) (v3 : Int32) (v4 : Int32) (S : Mem), K21 v0 v1 v2 v3 v4 S = some (r, S') → Run g l uX6_found (fin g uX6_found (cvI r) S') 21 [(0, .ref v0), (1, .int v1), (2, .int v2), (3, .int v3), (4, .int v4)] [] 0 0 S) : ∀ (v0 : Nat) (v1 : Int32) (v2 : Int32) (v4 : Int32) (s0 : Int32) (S : Mem), F_X6_found_J48 K21 v0 v1 v2 v4 s0 S = some (r, S') → Run g l uX6_found (fin g uX6_found (cvI r) S') 48 [(0, .ref v0), (1, .int v1), (2, .int v2), (4, .int v4)] [.int s0] 0 0 S := by
  intro v0 v1 v2 v4 s0 S h
  unfold F_X6_found_J48 at h
  refine r_istore_n (lv' := [(3, .int s0), (0, .ref v0), (1, .int v1), (2, .int v2), (4, .int v4)]) dX6_found_48 rfl (by decide) rfl ?_
  refine r_iinc (v := v4 + 1) (lv' := [(4, .int (v4 + 1)), (3, .int s0), (0, .ref v0), (1, .int v1), (2, .int v2)]) dX6_found_49 4 rfl rfl (by decide) rfl ?_
  refine r_goto (tgt := 21) dX6_found_52 (by decide) ?_
  refine r_sub [2, 3, 4, 1, 0] rfl ?_
  exact hK21 v0 v1 v2 s0 (v4 + 1) S h

def F_X6_found_L21 : Nat → Nat → Int32 → Int32 → Int32 → Int32 → Mem → Option (Int32 × Mem)
  | 0, _, _, _, _, _, _ => none
  | fu + 1, v0, v1, v2, v3, v4, S =>
    (pgI 6 4 S v0).bind fun t1 =>
    if t1 ≤ v4 then
      some (v3, S)
    else
      (pk 6 S v0).bind fun _ =>
      bd2 (F_X6_spans v0 v4 v1 v2 S) fun t4 S5 =>
      if t4 = 0 then
        F_X6_found_J48 (F_X6_found_L21 fu) v0 v1 v2 v4 v3 S5
      else
        F_X6_found_J48 (F_X6_found_L21 fu) v0 v1 v2 v4 (v3 + (1 : Int32)) S5
set_option maxRecDepth 100000 in
theorem T_X6_found_L21 {g : GG} {l : Launch} (hl : l.stackTraces = false) {S' : Mem} {r : Int32}  : ∀ (fu : Nat) (v0 : Nat) (v1 : Int32) (v2 : Int32) (v3 : Int32) (v4 : Int32) (S : Mem), F_X6_found_L21 fu v0 v1 v2 v3 v4 S = some (r, S') → Run g l uX6_found (fin g uX6_found (cvI r) S') 21 [(0, .ref v0), (1, .int v1), (2, .int v2), (3, .int v3), (4, .int v4)] [] 0 0 S := by
  intro fu
  induction fu with
  | zero =>
    intro v0 v1 v2 v3 v4 S h
    cases (show none = some _ from h)
  | succ fu ih =>
    intro v0 v1 v2 v3 v4 S h
    unfold F_X6_found_L21 at h
    refine r_iload dX6_found_21 4 rfl ?_
    refine r_aload_n dX6_found_23 rfl 0 rfl ?_
    obtain ⟨t1, h0, h⟩ := bd h
    refine q_getI h0 dX6_found_24 fl6_44 rfl ?_
    refine r_icmp_ge (tgt := 55) dX6_found_27 (by decide) (fun c2 => ?_) (fun c2 => ?_)
    · rw [if_pos c2] at h
      refine r_iload_n dX6_found_55 rfl 3 rfl ?_
      cases h
      exact r_ireturn dX6_found_56 rfl rfl (by decide) (by decide)
    · rw [if_neg c2] at h
      refine r_aload_n dX6_found_30 rfl 0 rfl ?_
      refine r_iload dX6_found_31 4 rfl ?_
      refine r_iload_n dX6_found_33 rfl 1 rfl ?_
      refine r_iload_n dX6_found_34 rfl 2 rfl ?_
      obtain ⟨z3, hk, h⟩ := bd h
      obtain ⟨t4, S5, h0, h⟩ := bd2_s h
      refine r_invV (As := [.int v4, .int v1, .int v2]) (st := []) dX6_found_35 lv6_166 (by unfold RM; decide) (Nat.le_of_ble_eq_true rfl) rfl rfl (pk_ok hk) (T_X6_spans hl h0) ?_
      refine r_if_eq (tgt := 47) dX6_found_38 (by decide) (fun c6 => ?_) (fun c6 => ?_)
      · rw [if_pos c6] at h
        refine r_iload_n dX6_found_47 rfl 3 rfl ?_
        refine r_sub [0, 1, 2, 4] rfl ?_
        exact T_X6_found_J48 hl (fun v0 v1 v2 v3 v4 S h => ih v0 v1 v2 v3 v4 S h) v0 v1 v2 v4 v3 S5 h
      · rw [if_neg c6] at h
        refine r_iload_n dX6_found_41 rfl 3 rfl ?_
        refine r_iconst (v := (1 : Int32)) dX6_found_42 (by decide) ?_
        refine r_iadd dX6_found_43 ?_
        refine r_goto (tgt := 48) dX6_found_44 (by decide) ?_
        refine r_sub [0, 1, 2, 4] rfl ?_
        exact T_X6_found_J48 hl (fun v0 v1 v2 v3 v4 S h => ih v0 v1 v2 v3 v4 S h) v0 v1 v2 v4 (v3 + (1 : Int32)) S5 h

def F_X6_found (v0 : Nat) (v1 : Int32) (v2 : Int32) (S : Mem) : Option (Int32 × Mem) :=
    (pk 6 S v0).bind fun _ =>
    bd2 (F_X6_isBad v0 v1 v2 S) fun t8 S9 =>
    (pk 6 S9 v0).bind fun _ =>
    bd2 (F_X6_throwing v0 t8 (0 : Int32) S9) fun t11 S12 =>
    if t11 = 0 then
      F_X6_found_L21 FU v0 v1 v2 (0 : Int32) (0 : Int32) S12
    else
      some ((0 : Int32), S12)
set_option maxRecDepth 100000 in
theorem T_X6_found {g : GG} {l : Launch} (hl : l.stackTraces = false) {v0 : Nat} {v1 : Int32} {v2 : Int32} {S S' : Mem} {r : Int32} (h : F_X6_found v0 v1 v2 S = some (r, S')) : Call g l uX6_found [.ref v0, .int v1, .int v2] S (cvI r) S' := by
  refine call_of (by decide +kernel) hl rfl (Nat.le_of_ble_eq_true rfl) ?_
  show Run g l uX6_found _ 0 [(0, .ref v0), (1, .int v1), (2, .int v2)] [] 0 0 S
  unfold F_X6_found at h
  refine r_aload_n dX6_found_0 rfl 0 rfl ?_
  refine r_aload_n dX6_found_1 rfl 0 rfl ?_
  refine r_iload_n dX6_found_2 rfl 1 rfl ?_
  refine r_iload_n dX6_found_3 rfl 2 rfl ?_
  obtain ⟨z7, hk, h⟩ := bd h
  obtain ⟨t8, S9, h0, h⟩ := bd2_s h
  refine r_invV (As := [.int v1, .int v2]) (st := [.ref v0]) dX6_found_4 lv6_163 (by unfold RM; decide) (Nat.le_of_ble_eq_true rfl) rfl rfl (pk_ok hk) (T_X6_isBad hl h0) ?_
  refine r_iconst (v := (0 : Int32)) dX6_found_7 (by decide) ?_
  obtain ⟨z10, hk, h⟩ := bd h
  obtain ⟨t11, S12, h0, h⟩ := bd2_s h
  refine r_invV (As := [.int t8, .int ((0 : Int32))]) (st := []) dX6_found_8 lv6_47 (by unfold RM; decide) (Nat.le_of_ble_eq_true rfl) rfl rfl (pk_ok hk) (T_X6_throwing hl h0) ?_
  refine r_if_eq (tgt := 16) dX6_found_11 (by decide) (fun c13 => ?_) (fun c13 => ?_)
  · rw [if_pos c13] at h
    refine r_iconst (v := (0 : Int32)) dX6_found_16 (by decide) ?_
    refine r_istore_n (lv' := [(3, .int ((0 : Int32))), (0, .ref v0), (1, .int v1), (2, .int v2)]) dX6_found_17 rfl (by decide) rfl ?_
    refine r_iconst (v := (0 : Int32)) dX6_found_18 (by decide) ?_
    refine r_istore (lv' := [(4, .int ((0 : Int32))), (3, .int ((0 : Int32))), (0, .ref v0), (1, .int v1), (2, .int v2)]) dX6_found_19 (by decide) rfl ?_
    refine r_sub [2, 3, 4, 1, 0] rfl ?_
    exact T_X6_found_L21 hl FU v0 v1 v2 (0 : Int32) (0 : Int32) S12 h
  · rw [if_neg c13] at h
    refine r_iconst (v := (0 : Int32)) dX6_found_14 (by decide) ?_
    cases h
    exact r_ireturn dX6_found_15 rfl rfl (by decide) (by decide)

def F_X6_mean_J77 (v4 : Int32) (v5 : UInt32) (s0 : Nat) (s1 : Int32) (s2 : Int32) (S : Mem) : Option (UInt32 × Mem) :=
    (pk 6 S s0).bind fun _ =>
    bd2 (F_X6_throwing s0 s1 s2 S) fun t2 S3 =>
    if t2 = 0 then
      (pfdiv v5 (FP.i2f v4)).bind fun t5 =>
      some (t5, S3)
    else
      some (FP.fconst0, S3)
set_option maxRecDepth 100000 in
theorem T_X6_mean_J77 {g : GG} {l : Launch} (hl : l.stackTraces = false) {S' : Mem} {r : UInt32}  : ∀ (v4 : Int32) (v5 : UInt32) (s0 : Nat) (s1 : Int32) (s2 : Int32) (S : Mem), F_X6_mean_J77 v4 v5 s0 s1 s2 S = some (r, S') → Run g l uX6_mean (fin g uX6_mean (cvF r) S') 77 [(4, .int v4), (5, .float v5)] [.int s2, .int s1, .ref s0] 0 0 S := by
  intro v4 v5 s0 s1 s2 S h
  unfold F_X6_mean_J77 at h
  obtain ⟨z1, hk, h⟩ := bd h
  obtain ⟨t2, S3, h0, h⟩ := bd2_s h
  refine r_invV (As := [.int s1, .int s2]) (st := []) dX6_mean_77 lv6_47 (by unfold RM; decide) (Nat.le_of_ble_eq_true rfl) rfl rfl (pk_ok hk) (T_X6_throwing hl h0) ?_
  refine r_if_eq (tgt := 87) dX6_mean_80 (by decide) (fun c4 => ?_) (fun c4 => ?_)
  · rw [if_pos c4] at h
    refine r_fload dX6_mean_87 1 rfl ?_
    refine r_iload dX6_mean_89 0 rfl ?_
    refine r_i2f dX6_mean_91 ?_
    obtain ⟨t5, h0, h⟩ := bd h
    refine q_fdiv h0 dX6_mean_92 ?_
    cases h
    exact r_freturn dX6_mean_93 rfl (by decide) (by decide)
  · rw [if_neg c4] at h
    refine r_fconst0 dX6_mean_83 ?_
    refine r_goto (tgt := 93) dX6_mean_84 (by decide) ?_
    cases h
    exact r_freturn dX6_mean_93 rfl (by decide) (by decide)

def F_X6_mean_J59 (K16 : Nat → Int32 → Int32 → Int32 → Int32 → UInt32 → Int32 → Mem → Option (UInt32 × Mem)) (v0 : Nat) (v1 : Int32) (v2 : Int32) (v3 : Int32) (v4 : Int32) (v5 : UInt32) (v6 : Int32) (S : Mem) : Option (UInt32 × Mem) :=
    K16 v0 v1 v2 v3 v4 v5 (v6 + 1) S
set_option maxRecDepth 100000 in
theorem T_X6_mean_J59 {g : GG} {l : Launch} (hl : l.stackTraces = false) {S' : Mem} {r : UInt32}  {K16 : Nat → Int32 → Int32 → Int32 → Int32 → UInt32 → Int32 → Mem → Option (UInt32 × Mem)} (hK16 : ∀ (v0 : Nat) (v1 : Int32) (v2 : Int32) (v3 : Int32) (v4 : Int32) (v5 : UInt32) (v6 : Int32) (S : Mem), K16 v0 v1 v2 v3 v4 v5 v6 S = some (r, S') → Run g l uX6_mean (fin g uX6_mean (cvF r) S') 16 [(0, .ref v0), (1, .int v1), (2, .int v2), (3, .int v3), (4, .int v4), (5, .float v5), (6, .int v6)] [] 0 0 S) : ∀ (v0 : Nat) (v1 : Int32) (v2 : Int32) (v3 : Int32) (v4 : Int32) (v5 : UInt32) (v6 : Int32) (S : Mem), F_X6_mean_J59 K16 v0 v1 v2 v3 v4 v5 v6 S = some (r, S') → Run g l uX6_mean (fin g uX6_mean (cvF r) S') 59 [(0, .ref v0), (1, .int v1), (2, .int v2), (3, .int v3), (4, .int v4), (5, .float v5), (6, .int v6)] [] 0 0 S := by
  intro v0 v1 v2 v3 v4 v5 v6 S h
  unfold F_X6_mean_J59 at h
  refine r_iinc (v := v6 + 1) (lv' := [(6, .int (v6 + 1)), (0, .ref v0), (1, .int v1), (2, .int v2), (3, .int v3), (4, .int v4), (5, .float v5)]) dX6_mean_59 6 rfl rfl (by decide) rfl ?_
  refine r_goto (tgt := 16) dX6_mean_62 (by decide) ?_
  refine r_sub [1, 2, 3, 4, 5, 6, 0] rfl ?_
  exact hK16 v0 v1 v2 v3 v4 v5 (v6 + 1) S h

def F_X6_mean_L16 : Nat → Nat → Int32 → Int32 → Int32 → Int32 → UInt32 → Int32 → Mem → Option (UInt32 × Mem)
  | 0, _, _, _, _, _, _, _, _ => none
  | fu + 1, v0, v1, v2, v3, v4, v5, v6, S =>
    (pgI 6 4 S v0).bind fun t6 =>
    if t6 ≤ v6 then
      if v4 = 0 then
        F_X6_mean_J77 v4 v5 v0 v3 (1 : Int32) S
      else
        F_X6_mean_J77 v4 v5 v0 v3 (0 : Int32) S
    else
      (pk 6 S v0).bind fun _ =>
      bd2 (F_X6_spans v0 v6 v1 v2 S) fun t10 S11 =>
      if t10 = 0 then
        F_X6_mean_J59 (F_X6_mean_L16 fu) v0 v1 v2 v3 v4 v5 v6 S11
      else
        (pk 6 S11 v0).bind fun _ =>
        bd2 (F_X6_get v0 v6 (10 : Int32) S11) fun t14 S15 =>
        (pfmul (FP.i2f t14) (1040187392 : UInt32)).bind fun t16 =>
        (pfadd v5 t16).bind fun t17 =>
        F_X6_mean_J59 (F_X6_mean_L16 fu) v0 v1 v2 v3 (v4 + 1) t17 v6 S15
set_option maxRecDepth 100000 in
theorem T_X6_mean_L16 {g : GG} {l : Launch} (hl : l.stackTraces = false) {S' : Mem} {r : UInt32}  : ∀ (fu : Nat) (v0 : Nat) (v1 : Int32) (v2 : Int32) (v3 : Int32) (v4 : Int32) (v5 : UInt32) (v6 : Int32) (S : Mem), F_X6_mean_L16 fu v0 v1 v2 v3 v4 v5 v6 S = some (r, S') → Run g l uX6_mean (fin g uX6_mean (cvF r) S') 16 [(0, .ref v0), (1, .int v1), (2, .int v2), (3, .int v3), (4, .int v4), (5, .float v5), (6, .int v6)] [] 0 0 S := by
  intro fu
  induction fu with
  | zero =>
    intro v0 v1 v2 v3 v4 v5 v6 S h
    cases (show none = some _ from h)
  | succ fu ih =>
    intro v0 v1 v2 v3 v4 v5 v6 S h
    unfold F_X6_mean_L16 at h
    refine r_iload dX6_mean_16 6 rfl ?_
    refine r_aload_n dX6_mean_18 rfl 0 rfl ?_
    obtain ⟨t6, h0, h⟩ := bd h
    refine q_getI h0 dX6_mean_19 fl6_44 rfl ?_
    refine r_icmp_ge (tgt := 65) dX6_mean_22 (by decide) (fun c7 => ?_) (fun c7 => ?_)
    · rw [if_pos c7] at h
      refine r_aload_n dX6_mean_65 rfl 0 rfl ?_
      refine r_iload_n dX6_mean_66 rfl 3 rfl ?_
      refine r_iload dX6_mean_67 4 rfl ?_
      refine r_if_ne (tgt := 76) dX6_mean_69 (by decide) (fun c8 => ?_) (fun c8 => ?_)
      · rw [if_neg c8] at h
        refine r_iconst (v := (0 : Int32)) dX6_mean_76 (by decide) ?_
        refine r_sub [4, 5] rfl ?_
        exact T_X6_mean_J77 hl v4 v5 v0 v3 (0 : Int32) S h
      · rw [if_pos c8] at h
        refine r_iconst (v := (1 : Int32)) dX6_mean_72 (by decide) ?_
        refine r_goto (tgt := 77) dX6_mean_73 (by decide) ?_
        refine r_sub [4, 5] rfl ?_
        exact T_X6_mean_J77 hl v4 v5 v0 v3 (1 : Int32) S h
    · rw [if_neg c7] at h
      refine r_aload_n dX6_mean_25 rfl 0 rfl ?_
      refine r_iload dX6_mean_26 6 rfl ?_
      refine r_iload_n dX6_mean_28 rfl 1 rfl ?_
      refine r_iload_n dX6_mean_29 rfl 2 rfl ?_
      obtain ⟨z9, hk, h⟩ := bd h
      obtain ⟨t10, S11, h0, h⟩ := bd2_s h
      refine r_invV (As := [.int v6, .int v1, .int v2]) (st := []) dX6_mean_30 lv6_166 (by unfold RM; decide) (Nat.le_of_ble_eq_true rfl) rfl rfl (pk_ok hk) (T_X6_spans hl h0) ?_
      refine r_if_ne (tgt := 39) dX6_mean_33 (by decide) (fun c12 => ?_) (fun c12 => ?_)
      · rw [if_neg c12] at h
        refine r_fload dX6_mean_39 5 rfl ?_
        refine r_aload_n dX6_mean_41 rfl 0 rfl ?_
        refine r_iload dX6_mean_42 6 rfl ?_
        refine r_bipush (v := (10 : Int32)) dX6_mean_44 (by decide) ?_
        obtain ⟨z13, hk, h⟩ := bd h
        obtain ⟨t14, S15, h0, h⟩ := bd2_s h
        refine r_invV (As := [.int v6, .int ((10 : Int32))]) (st := [.float v5]) dX6_mean_46 lv6_33 (by unfold RM; decide) (Nat.le_of_ble_eq_true rfl) rfl rfl (pk_ok hk) (T_X6_get hl h0) ?_
        refine r_i2f dX6_mean_49 ?_
        refine r_ldcf dX6_mean_50 wf6_170 ?_
        obtain ⟨t16, h0, h⟩ := bd h
        refine q_fmul h0 dX6_mean_52 ?_
        obtain ⟨t17, h0, h⟩ := bd h
        refine q_fadd h0 dX6_mean_53 ?_
        refine r_fstore (lv' := [(5, .float t17), (0, .ref v0), (1, .int v1), (2, .int v2), (3, .int v3), (4, .int v4), (6, .int v6)]) dX6_mean_54 (by decide) rfl ?_
        refine r_iinc (v := v4 + 1) (lv' := [(4, .int (v4 + 1)), (5, .float t17), (0, .ref v0), (1, .int v1), (2, .int v2), (3, .int v3), (6, .int v6)]) dX6_mean_56 5 rfl rfl (by decide) rfl ?_
        refine r_sub [2, 3, 4, 5, 0, 1, 6] rfl ?_
        exact T_X6_mean_J59 hl (fun v0 v1 v2 v3 v4 v5 v6 S h => ih v0 v1 v2 v3 v4 v5 v6 S h) v0 v1 v2 v3 (v4 + 1) t17 v6 S15 h
      · rw [if_pos c12] at h
        refine r_goto (tgt := 59) dX6_mean_36 (by decide) ?_
        exact T_X6_mean_J59 hl (fun v0 v1 v2 v3 v4 v5 v6 S h => ih v0 v1 v2 v3 v4 v5 v6 S h) v0 v1 v2 v3 v4 v5 v6 S11 h

def F_X6_mean (v0 : Nat) (v1 : Int32) (v2 : Int32) (S : Mem) : Option (UInt32 × Mem) :=
    (pk 6 S v0).bind fun _ =>
    bd2 (F_X6_isBad v0 v1 v2 S) fun t19 S20 =>
    F_X6_mean_L16 FU v0 v1 v2 t19 (0 : Int32) FP.fconst0 (0 : Int32) S20
set_option maxRecDepth 100000 in
theorem T_X6_mean {g : GG} {l : Launch} (hl : l.stackTraces = false) {v0 : Nat} {v1 : Int32} {v2 : Int32} {S S' : Mem} {r : UInt32} (h : F_X6_mean v0 v1 v2 S = some (r, S')) : Call g l uX6_mean [.ref v0, .int v1, .int v2] S (cvF r) S' := by
  refine call_of (by decide +kernel) hl rfl (Nat.le_of_ble_eq_true rfl) ?_
  show Run g l uX6_mean _ 0 [(0, .ref v0), (1, .int v1), (2, .int v2)] [] 0 0 S
  unfold F_X6_mean at h
  refine r_aload_n dX6_mean_0 rfl 0 rfl ?_
  refine r_iload_n dX6_mean_1 rfl 1 rfl ?_
  refine r_iload_n dX6_mean_2 rfl 2 rfl ?_
  obtain ⟨z18, hk, h⟩ := bd h
  obtain ⟨t19, S20, h0, h⟩ := bd2_s h
  refine r_invV (As := [.int v1, .int v2]) (st := []) dX6_mean_3 lv6_163 (by unfold RM; decide) (Nat.le_of_ble_eq_true rfl) rfl rfl (pk_ok hk) (T_X6_isBad hl h0) ?_
  refine r_istore_n (lv' := [(3, .int t19), (0, .ref v0), (1, .int v1), (2, .int v2)]) dX6_mean_6 rfl (by decide) rfl ?_
  refine r_iconst (v := (0 : Int32)) dX6_mean_7 (by decide) ?_
  refine r_istore (lv' := [(4, .int ((0 : Int32))), (3, .int t19), (0, .ref v0), (1, .int v1), (2, .int v2)]) dX6_mean_8 (by decide) rfl ?_
  refine r_fconst0 dX6_mean_10 ?_
  refine r_fstore (lv' := [(5, .float FP.fconst0), (4, .int ((0 : Int32))), (3, .int t19), (0, .ref v0), (1, .int v1), (2, .int v2)]) dX6_mean_11 (by decide) rfl ?_
  refine r_iconst (v := (0 : Int32)) dX6_mean_13 (by decide) ?_
  refine r_istore (lv' := [(6, .int ((0 : Int32))), (5, .float FP.fconst0), (4, .int ((0 : Int32))), (3, .int t19), (0, .ref v0), (1, .int v1), (2, .int v2)]) dX6_mean_14 (by decide) rfl ?_
  refine r_sub [4, 5, 6, 3, 2, 1, 0] rfl ?_
  exact T_X6_mean_L16 hl FU v0 v1 v2 t19 (0 : Int32) FP.fconst0 (0 : Int32) S20 h

def F_L_reference (v0 : Nat) (v1 : Int64) (v3 : Int32) (v4 : Nat) (S : Mem) : Option (Int32 × Mem) :=
    (pk 5 S v0).bind fun _ =>
    bdc (F_X5_reference v0 v1 v3 S) (fun t2 S3 =>
    (psJ S3 v4 (0 : Int32) t2.toInt64).bind fun S5 =>
    some ((0 : Int32), S5))
      (fun e4 S3 => if e4 = "java/lang/IllegalArgumentException" then some ((1 : Int32), S3) else if e4 = "java/lang/IllegalStateException" then some ((2 : Int32), S3) else none)
set_option maxRecDepth 100000 in
theorem T_L_reference {g : GG} {l : Launch} (hl : l.stackTraces = false) {v0 : Nat} {v1 : Int64} {v3 : Int32} {v4 : Nat} {S S' : Mem} {r : Int32} (h : F_L_reference v0 v1 v3 v4 S = some (r, S')) : CallT g l uL_reference [.ref v0, .long v1, .int v3, .ref v4] S (cvI r) S' := by
  refine callT_of (by decide +kernel) hl (Nat.le_of_ble_eq_true rfl) ?_
  show Run g l uL_reference _ 0 [(0, .ref v0), (1, .long v1), (3, .int v3), (4, .ref v4)] [] 0 0 S
  unfold F_L_reference at h
  refine r_aload dL_reference_0 3 rfl ?_
  refine r_iconst (v := (0 : Int32)) dL_reference_2 (by decide) ?_
  refine r_aload_n dL_reference_3 rfl 0 rfl ?_
  refine r_lload_n dL_reference_4 rfl 1 rfl ?_
  refine r_iload_n dL_reference_5 rfl 2 rfl ?_
  obtain ⟨z1, hk, h⟩ := bd h
  rcases bdc_s h with ⟨t2, S3, h0, h⟩ | ⟨e4, S3, h0, h⟩
  · refine r_invV (As := [.long v1, .int v3]) (st := [.int ((0 : Int32)), .ref v4]) dL_reference_6 lvL_7 (by unfold RM; decide) (Nat.le_of_ble_eq_true rfl) rfl rfl (pk_ok hk) (T_X5_reference hl h0) ?_
    refine r_i2l dL_reference_9 ?_
    obtain ⟨S5, h0, h⟩ := bd h
    refine q_lastore h0 dL_reference_10 ?_
    refine r_goto (tgt := 22) dL_reference_11 (by decide) ?_
    refine r_iconst (v := (0 : Int32)) dL_reference_22 (by decide) ?_
    cases h
    exact r_ireturn dL_reference_23 rfl rfl (by decide) (by decide)
  · by_cases c6 : e4 = "java/lang/IllegalArgumentException"
    · rw [if_pos c6] at h
      subst c6
      cases h
      refine r_invV_c (name := "java/lang/IllegalArgumentException") (As := [.long v1, .int v3]) (st := [.int ((0 : Int32)), .ref v4]) dL_reference_6 lvL_7 (by unfold RM; decide) (Nat.le_of_ble_eq_true rfl) rfl rfl (pk_ok hk) [] (0, 11, 14, 13) [(0, 11, 18, 15)] rfl (fun z hz => nomatch hz) (by decide) (by decide) wcL_13 wct_IllegalArgumentException rfl (T_X5_reference hl h0) (fun q => ?_)
      refine r_astore (lv' := [(5, .ref q), (0, .ref v0), (1, .long v1), (3, .int v3), (4, .ref v4)]) dL_reference_14 (by decide) rfl ?_
      refine r_iconst (v := (1 : Int32)) dL_reference_16 (by decide) ?_
      exact r_ireturn dL_reference_17 rfl rfl (by decide) (by decide)
    rw [if_neg c6] at h
    by_cases c7 : e4 = "java/lang/IllegalStateException"
    · rw [if_pos c7] at h
      subst c7
      cases h
      refine r_invV_c (name := "java/lang/IllegalStateException") (As := [.long v1, .int v3]) (st := [.int ((0 : Int32)), .ref v4]) dL_reference_6 lvL_7 (by unfold RM; decide) (Nat.le_of_ble_eq_true rfl) rfl rfl (pk_ok hk) [(0, 11, 14, 13)] (0, 11, 18, 15) [] rfl (fun z hz => by rcases List.mem_singleton.mp hz with rfl; exact ⟨by decide, "java/lang/IllegalArgumentException", wcL_13, by decide⟩) (by decide) (by decide) wcL_15 wct_IllegalStateException rfl (T_X5_reference hl h0) (fun q => ?_)
      refine r_astore (lv' := [(5, .ref q), (0, .ref v0), (1, .long v1), (3, .int v3), (4, .ref v4)]) dL_reference_18 (by decide) rfl ?_
      refine r_iconst (v := (2 : Int32)) dL_reference_20 (by decide) ?_
      exact r_ireturn dL_reference_21 rfl rfl (by decide) (by decide)
    rw [if_neg c7] at h
    cases h

def F_L_draft (v0 : Nat) (v1 : Int32) (v2 : Int32) (S : Mem) : Option (Int32 × Mem) :=
    (pk 5 S v0).bind fun _ =>
    bdc (F_X5_draft v0 v1 v2 S) (fun _ S3 =>
    some ((0 : Int32), S3))
      (fun e4 S3 => if e4 = "java/lang/IllegalArgumentException" then some ((1 : Int32), S3) else none)
set_option maxRecDepth 100000 in
theorem T_L_draft {g : GG} {l : Launch} (hl : l.stackTraces = false) {v0 : Nat} {v1 : Int32} {v2 : Int32} {S S' : Mem} {r : Int32} (h : F_L_draft v0 v1 v2 S = some (r, S')) : CallT g l uL_draft [.ref v0, .int v1, .int v2] S (cvI r) S' := by
  refine callT_of (by decide +kernel) hl (Nat.le_of_ble_eq_true rfl) ?_
  show Run g l uL_draft _ 0 [(0, .ref v0), (1, .int v1), (2, .int v2)] [] 0 0 S
  unfold F_L_draft at h
  refine r_aload_n dL_draft_0 rfl 0 rfl ?_
  refine r_iload_n dL_draft_1 rfl 1 rfl ?_
  refine r_iload_n dL_draft_2 rfl 2 rfl ?_
  obtain ⟨z1, hk, h⟩ := bd h
  rcases bdc_s h with ⟨t2, S3, h0, h⟩ | ⟨e4, S3, h0, h⟩
  · refine r_invV (As := [.int v1, .int v2]) (st := []) dL_draft_3 lvL_17 (by unfold RM; decide) (Nat.le_of_ble_eq_true rfl) rfl rfl (pk_ok hk) (T_X5_draft hl h0) ?_
    refine r_goto (tgt := 12) dL_draft_6 (by decide) ?_
    refine r_iconst (v := (0 : Int32)) dL_draft_12 (by decide) ?_
    cases h
    exact r_ireturn dL_draft_13 rfl rfl (by decide) (by decide)
  · by_cases c5 : e4 = "java/lang/IllegalArgumentException"
    · rw [if_pos c5] at h
      subst c5
      cases h
      refine r_invV_c (name := "java/lang/IllegalArgumentException") (As := [.int v1, .int v2]) (st := []) dL_draft_3 lvL_17 (by unfold RM; decide) (Nat.le_of_ble_eq_true rfl) rfl rfl (pk_ok hk) [] (0, 6, 9, 13) [] rfl (fun z hz => nomatch hz) (by decide) (by decide) wcL_13 wct_IllegalArgumentException rfl (T_X5_draft hl h0) (fun q => ?_)
      refine r_astore_n (lv' := [(3, .ref q), (0, .ref v0), (1, .int v1), (2, .int v2)]) dL_draft_9 rfl (by decide) rfl ?_
      refine r_iconst (v := (1 : Int32)) dL_draft_10 (by decide) ?_
      exact r_ireturn dL_draft_11 rfl rfl (by decide) (by decide)
    rw [if_neg c5] at h
    cases h

def F_L_allele (v0 : Nat) (v1 : Int64) (v3 : Int32) (v4 : Nat) (S : Mem) : Option (Int32 × Mem) :=
    (pk 5 S v0).bind fun _ =>
    bdc (F_X5_allele v0 v1 v3 S) (fun t2 S3 =>
    (psJ S3 v4 (0 : Int32) t2.toInt64).bind fun S5 =>
    some ((0 : Int32), S5))
      (fun e4 S3 => if e4 = "java/lang/IllegalArgumentException" then some ((1 : Int32), S3) else if e4 = "java/lang/IllegalStateException" then some ((2 : Int32), S3) else none)
set_option maxRecDepth 100000 in
theorem T_L_allele {g : GG} {l : Launch} (hl : l.stackTraces = false) {v0 : Nat} {v1 : Int64} {v3 : Int32} {v4 : Nat} {S S' : Mem} {r : Int32} (h : F_L_allele v0 v1 v3 v4 S = some (r, S')) : CallT g l uL_allele [.ref v0, .long v1, .int v3, .ref v4] S (cvI r) S' := by
  refine callT_of (by decide +kernel) hl (Nat.le_of_ble_eq_true rfl) ?_
  show Run g l uL_allele _ 0 [(0, .ref v0), (1, .long v1), (3, .int v3), (4, .ref v4)] [] 0 0 S
  unfold F_L_allele at h
  refine r_aload dL_allele_0 3 rfl ?_
  refine r_iconst (v := (0 : Int32)) dL_allele_2 (by decide) ?_
  refine r_aload_n dL_allele_3 rfl 0 rfl ?_
  refine r_lload_n dL_allele_4 rfl 1 rfl ?_
  refine r_iload_n dL_allele_5 rfl 2 rfl ?_
  obtain ⟨z1, hk, h⟩ := bd h
  rcases bdc_s h with ⟨t2, S3, h0, h⟩ | ⟨e4, S3, h0, h⟩
  · refine r_invV (As := [.long v1, .int v3]) (st := [.int ((0 : Int32)), .ref v4]) dL_allele_6 lvL_21 (by unfold RM; decide) (Nat.le_of_ble_eq_true rfl) rfl rfl (pk_ok hk) (T_X5_allele hl h0) ?_
    refine r_i2l dL_allele_9 ?_
    obtain ⟨S5, h0, h⟩ := bd h
    refine q_lastore h0 dL_allele_10 ?_
    refine r_goto (tgt := 22) dL_allele_11 (by decide) ?_
    refine r_iconst (v := (0 : Int32)) dL_allele_22 (by decide) ?_
    cases h
    exact r_ireturn dL_allele_23 rfl rfl (by decide) (by decide)
  · by_cases c6 : e4 = "java/lang/IllegalArgumentException"
    · rw [if_pos c6] at h
      subst c6
      cases h
      refine r_invV_c (name := "java/lang/IllegalArgumentException") (As := [.long v1, .int v3]) (st := [.int ((0 : Int32)), .ref v4]) dL_allele_6 lvL_21 (by unfold RM; decide) (Nat.le_of_ble_eq_true rfl) rfl rfl (pk_ok hk) [] (0, 11, 14, 13) [(0, 11, 18, 15)] rfl (fun z hz => nomatch hz) (by decide) (by decide) wcL_13 wct_IllegalArgumentException rfl (T_X5_allele hl h0) (fun q => ?_)
      refine r_astore (lv' := [(5, .ref q), (0, .ref v0), (1, .long v1), (3, .int v3), (4, .ref v4)]) dL_allele_14 (by decide) rfl ?_
      refine r_iconst (v := (1 : Int32)) dL_allele_16 (by decide) ?_
      exact r_ireturn dL_allele_17 rfl rfl (by decide) (by decide)
    rw [if_neg c6] at h
    by_cases c7 : e4 = "java/lang/IllegalStateException"
    · rw [if_pos c7] at h
      subst c7
      cases h
      refine r_invV_c (name := "java/lang/IllegalStateException") (As := [.long v1, .int v3]) (st := [.int ((0 : Int32)), .ref v4]) dL_allele_6 lvL_21 (by unfold RM; decide) (Nat.le_of_ble_eq_true rfl) rfl rfl (pk_ok hk) [(0, 11, 14, 13)] (0, 11, 18, 15) [] rfl (fun z hz => by rcases List.mem_singleton.mp hz with rfl; exact ⟨by decide, "java/lang/IllegalArgumentException", wcL_13, by decide⟩) (by decide) (by decide) wcL_15 wct_IllegalStateException rfl (T_X5_allele hl h0) (fun q => ?_)
      refine r_astore (lv' := [(5, .ref q), (0, .ref v0), (1, .long v1), (3, .int v3), (4, .ref v4)]) dL_allele_18 (by decide) rfl ?_
      refine r_iconst (v := (2 : Int32)) dL_allele_20 (by decide) ?_
      exact r_ireturn dL_allele_21 rfl rfl (by decide) (by decide)
    rw [if_neg c7] at h
    cases h

def F_L_depth (v0 : Nat) (v1 : Int32) (v2 : Int32) (v3 : Int32) (S : Mem) : Option (Int32 × Mem) :=
    (pk 5 S v0).bind fun _ =>
    bdc (F_X5_depth v0 v1 v2 v3 S) (fun _ S3 =>
    some ((0 : Int32), S3))
      (fun e4 S3 => if e4 = "java/lang/IllegalArgumentException" then some ((1 : Int32), S3) else none)
set_option maxRecDepth 100000 in
theorem T_L_depth {g : GG} {l : Launch} (hl : l.stackTraces = false) {v0 : Nat} {v1 : Int32} {v2 : Int32} {v3 : Int32} {S S' : Mem} {r : Int32} (h : F_L_depth v0 v1 v2 v3 S = some (r, S')) : CallT g l uL_depth [.ref v0, .int v1, .int v2, .int v3] S (cvI r) S' := by
  refine callT_of (by decide +kernel) hl (Nat.le_of_ble_eq_true rfl) ?_
  show Run g l uL_depth _ 0 [(0, .ref v0), (1, .int v1), (2, .int v2), (3, .int v3)] [] 0 0 S
  unfold F_L_depth at h
  refine r_aload_n dL_depth_0 rfl 0 rfl ?_
  refine r_iload_n dL_depth_1 rfl 1 rfl ?_
  refine r_iload_n dL_depth_2 rfl 2 rfl ?_
  refine r_iload_n dL_depth_3 rfl 3 rfl ?_
  obtain ⟨z1, hk, h⟩ := bd h
  rcases bdc_s h with ⟨t2, S3, h0, h⟩ | ⟨e4, S3, h0, h⟩
  · refine r_invV (As := [.int v1, .int v2, .int v3]) (st := []) dL_depth_4 lvL_24 (by unfold RM; decide) (Nat.le_of_ble_eq_true rfl) rfl rfl (pk_ok hk) (T_X5_depth hl h0) ?_
    refine r_goto (tgt := 14) dL_depth_7 (by decide) ?_
    refine r_iconst (v := (0 : Int32)) dL_depth_14 (by decide) ?_
    cases h
    exact r_ireturn dL_depth_15 rfl rfl (by decide) (by decide)
  · by_cases c5 : e4 = "java/lang/IllegalArgumentException"
    · rw [if_pos c5] at h
      subst c5
      cases h
      refine r_invV_c (name := "java/lang/IllegalArgumentException") (As := [.int v1, .int v2, .int v3]) (st := []) dL_depth_4 lvL_24 (by unfold RM; decide) (Nat.le_of_ble_eq_true rfl) rfl rfl (pk_ok hk) [] (0, 7, 10, 13) [] rfl (fun z hz => nomatch hz) (by decide) (by decide) wcL_13 wct_IllegalArgumentException rfl (T_X5_depth hl h0) (fun q => ?_)
      refine r_astore (lv' := [(4, .ref q), (0, .ref v0), (1, .int v1), (2, .int v2), (3, .int v3)]) dL_depth_10 (by decide) rfl ?_
      refine r_iconst (v := (1 : Int32)) dL_depth_12 (by decide) ?_
      exact r_ireturn dL_depth_13 rfl rfl (by decide) (by decide)
    rw [if_neg c5] at h
    cases h

def F_L_genotype (v0 : Nat) (v1 : Int32) (v2 : Int32) (v3 : Int32) (v4 : Int32) (S : Mem) : Option (Int32 × Mem) :=
    (pk 5 S v0).bind fun _ =>
    bdc (F_X5_genotype v0 v1 v2 v3 v4 S) (fun _ S3 =>
    some ((0 : Int32), S3))
      (fun e4 S3 => if e4 = "java/lang/IllegalArgumentException" then some ((1 : Int32), S3) else none)
set_option maxRecDepth 100000 in
theorem T_L_genotype {g : GG} {l : Launch} (hl : l.stackTraces = false) {v0 : Nat} {v1 : Int32} {v2 : Int32} {v3 : Int32} {v4 : Int32} {S S' : Mem} {r : Int32} (h : F_L_genotype v0 v1 v2 v3 v4 S = some (r, S')) : CallT g l uL_genotype [.ref v0, .int v1, .int v2, .int v3, .int v4] S (cvI r) S' := by
  refine callT_of (by decide +kernel) hl (Nat.le_of_ble_eq_true rfl) ?_
  show Run g l uL_genotype _ 0 [(0, .ref v0), (1, .int v1), (2, .int v2), (3, .int v3), (4, .int v4)] [] 0 0 S
  unfold F_L_genotype at h
  refine r_aload_n dL_genotype_0 rfl 0 rfl ?_
  refine r_iload_n dL_genotype_1 rfl 1 rfl ?_
  refine r_iload_n dL_genotype_2 rfl 2 rfl ?_
  refine r_iload_n dL_genotype_3 rfl 3 rfl ?_
  refine r_iload dL_genotype_4 4 rfl ?_
  obtain ⟨z1, hk, h⟩ := bd h
  rcases bdc_s h with ⟨t2, S3, h0, h⟩ | ⟨e4, S3, h0, h⟩
  · refine r_invV (As := [.int v1, .int v2, .int v3, .int v4]) (st := []) dL_genotype_6 lvL_28 (by unfold RM; decide) (Nat.le_of_ble_eq_true rfl) rfl rfl (pk_ok hk) (T_X5_genotype hl h0) ?_
    refine r_goto (tgt := 16) dL_genotype_9 (by decide) ?_
    refine r_iconst (v := (0 : Int32)) dL_genotype_16 (by decide) ?_
    cases h
    exact r_ireturn dL_genotype_17 rfl rfl (by decide) (by decide)
  · by_cases c5 : e4 = "java/lang/IllegalArgumentException"
    · rw [if_pos c5] at h
      subst c5
      cases h
      refine r_invV_c (name := "java/lang/IllegalArgumentException") (As := [.int v1, .int v2, .int v3, .int v4]) (st := []) dL_genotype_6 lvL_28 (by unfold RM; decide) (Nat.le_of_ble_eq_true rfl) rfl rfl (pk_ok hk) [] (0, 9, 12, 13) [] rfl (fun z hz => nomatch hz) (by decide) (by decide) wcL_13 wct_IllegalArgumentException rfl (T_X5_genotype hl h0) (fun q => ?_)
      refine r_astore (lv' := [(5, .ref q), (0, .ref v0), (1, .int v1), (2, .int v2), (3, .int v3), (4, .int v4)]) dL_genotype_12 (by decide) rfl ?_
      refine r_iconst (v := (1 : Int32)) dL_genotype_14 (by decide) ?_
      exact r_ireturn dL_genotype_15 rfl rfl (by decide) (by decide)
    rw [if_neg c5] at h
    cases h

def F_L_likelihood (v0 : Nat) (v1 : Int32) (v2 : Int32) (v3 : Int32) (S : Mem) : Option (Int32 × Mem) :=
    (pk 5 S v0).bind fun _ =>
    bdc (F_X5_likelihood v0 v1 v2 v3 S) (fun _ S3 =>
    some ((0 : Int32), S3))
      (fun e4 S3 => if e4 = "java/lang/IllegalArgumentException" then some ((1 : Int32), S3) else none)
set_option maxRecDepth 100000 in
theorem T_L_likelihood {g : GG} {l : Launch} (hl : l.stackTraces = false) {v0 : Nat} {v1 : Int32} {v2 : Int32} {v3 : Int32} {S S' : Mem} {r : Int32} (h : F_L_likelihood v0 v1 v2 v3 S = some (r, S')) : CallT g l uL_likelihood [.ref v0, .int v1, .int v2, .int v3] S (cvI r) S' := by
  refine callT_of (by decide +kernel) hl (Nat.le_of_ble_eq_true rfl) ?_
  show Run g l uL_likelihood _ 0 [(0, .ref v0), (1, .int v1), (2, .int v2), (3, .int v3)] [] 0 0 S
  unfold F_L_likelihood at h
  refine r_aload_n dL_likelihood_0 rfl 0 rfl ?_
  refine r_iload_n dL_likelihood_1 rfl 1 rfl ?_
  refine r_iload_n dL_likelihood_2 rfl 2 rfl ?_
  refine r_iload_n dL_likelihood_3 rfl 3 rfl ?_
  obtain ⟨z1, hk, h⟩ := bd h
  rcases bdc_s h with ⟨t2, S3, h0, h⟩ | ⟨e4, S3, h0, h⟩
  · refine r_invV (As := [.int v1, .int v2, .int v3]) (st := []) dL_likelihood_4 lvL_32 (by unfold RM; decide) (Nat.le_of_ble_eq_true rfl) rfl rfl (pk_ok hk) (T_X5_likelihood hl h0) ?_
    refine r_goto (tgt := 14) dL_likelihood_7 (by decide) ?_
    refine r_iconst (v := (0 : Int32)) dL_likelihood_14 (by decide) ?_
    cases h
    exact r_ireturn dL_likelihood_15 rfl rfl (by decide) (by decide)
  · by_cases c5 : e4 = "java/lang/IllegalArgumentException"
    · rw [if_pos c5] at h
      subst c5
      cases h
      refine r_invV_c (name := "java/lang/IllegalArgumentException") (As := [.int v1, .int v2, .int v3]) (st := []) dL_likelihood_4 lvL_32 (by unfold RM; decide) (Nat.le_of_ble_eq_true rfl) rfl rfl (pk_ok hk) [] (0, 7, 10, 13) [] rfl (fun z hz => nomatch hz) (by decide) (by decide) wcL_13 wct_IllegalArgumentException rfl (T_X5_likelihood hl h0) (fun q => ?_)
      refine r_astore (lv' := [(4, .ref q), (0, .ref v0), (1, .int v1), (2, .int v2), (3, .int v3)]) dL_likelihood_10 (by decide) rfl ?_
      refine r_iconst (v := (1 : Int32)) dL_likelihood_12 (by decide) ?_
      exact r_ireturn dL_likelihood_13 rfl rfl (by decide) (by decide)
    rw [if_neg c5] at h
    cases h

def F_L_add (v0 : Nat) (v1 : Nat) (S : Mem) : Option (Int32 × Mem) :=
    (pk 5 S v0).bind fun _ =>
    bdc (F_X5_add v0 S) (fun t2 S3 =>
    (psJ S3 v1 (0 : Int32) t2.toInt64).bind fun S5 =>
    some ((0 : Int32), S5))
      (fun e4 S3 => if e4 = "java/lang/IllegalStateException" then some ((1 : Int32), S3) else none)
set_option maxRecDepth 100000 in
theorem T_L_add {g : GG} {l : Launch} (hl : l.stackTraces = false) {v0 : Nat} {v1 : Nat} {S S' : Mem} {r : Int32} (h : F_L_add v0 v1 S = some (r, S')) : CallT g l uL_add [.ref v0, .ref v1] S (cvI r) S' := by
  refine callT_of (by decide +kernel) hl (Nat.le_of_ble_eq_true rfl) ?_
  show Run g l uL_add _ 0 [(0, .ref v0), (1, .ref v1)] [] 0 0 S
  unfold F_L_add at h
  refine r_aload_n dL_add_0 rfl 1 rfl ?_
  refine r_iconst (v := (0 : Int32)) dL_add_1 (by decide) ?_
  refine r_aload_n dL_add_2 rfl 0 rfl ?_
  obtain ⟨z1, hk, h⟩ := bd h
  rcases bdc_s h with ⟨t2, S3, h0, h⟩ | ⟨e4, S3, h0, h⟩
  · refine r_invV (As := []) (st := [.int ((0 : Int32)), .ref v1]) dL_add_3 lvL_35 (by unfold RM; decide) (Nat.le_of_ble_eq_true rfl) rfl rfl (pk_ok hk) (T_X5_add hl h0) ?_
    refine r_i2l dL_add_6 ?_
    obtain ⟨S5, h0, h⟩ := bd h
    refine q_lastore h0 dL_add_7 ?_
    refine r_goto (tgt := 14) dL_add_8 (by decide) ?_
    refine r_iconst (v := (0 : Int32)) dL_add_14 (by decide) ?_
    cases h
    exact r_ireturn dL_add_15 rfl rfl (by decide) (by decide)
  · by_cases c6 : e4 = "java/lang/IllegalStateException"
    · rw [if_pos c6] at h
      subst c6
      cases h
      refine r_invV_c (name := "java/lang/IllegalStateException") (As := []) (st := [.int ((0 : Int32)), .ref v1]) dL_add_3 lvL_35 (by unfold RM; decide) (Nat.le_of_ble_eq_true rfl) rfl rfl (pk_ok hk) [] (0, 8, 11, 15) [] rfl (fun z hz => nomatch hz) (by decide) (by decide) wcL_15 wct_IllegalStateException rfl (T_X5_add hl h0) (fun q => ?_)
      refine r_astore_n (lv' := [(2, .ref q), (0, .ref v0), (1, .ref v1)]) dL_add_11 rfl (by decide) rfl ?_
      refine r_iconst (v := (1 : Int32)) dL_add_12 (by decide) ?_
      exact r_ireturn dL_add_13 rfl rfl (by decide) (by decide)
    rw [if_neg c6] at h
    cases h

def F_L_remove (v0 : Nat) (v1 : Int32) (S : Mem) : Option (Int32 × Mem) :=
    (pk 5 S v0).bind fun _ =>
    bdc (F_X5_remove v0 v1 S) (fun _ S3 =>
    some ((0 : Int32), S3))
      (fun e4 S3 => if e4 = "java/lang/IllegalArgumentException" then some ((1 : Int32), S3) else none)
set_option maxRecDepth 100000 in
theorem T_L_remove {g : GG} {l : Launch} (hl : l.stackTraces = false) {v0 : Nat} {v1 : Int32} {S S' : Mem} {r : Int32} (h : F_L_remove v0 v1 S = some (r, S')) : CallT g l uL_remove [.ref v0, .int v1] S (cvI r) S' := by
  refine callT_of (by decide +kernel) hl (Nat.le_of_ble_eq_true rfl) ?_
  show Run g l uL_remove _ 0 [(0, .ref v0), (1, .int v1)] [] 0 0 S
  unfold F_L_remove at h
  refine r_aload_n dL_remove_0 rfl 0 rfl ?_
  refine r_iload_n dL_remove_1 rfl 1 rfl ?_
  obtain ⟨z1, hk, h⟩ := bd h
  rcases bdc_s h with ⟨t2, S3, h0, h⟩ | ⟨e4, S3, h0, h⟩
  · refine r_invV (As := [.int v1]) (st := []) dL_remove_2 lvL_39 (by unfold RM; decide) (Nat.le_of_ble_eq_true rfl) rfl rfl (pk_ok hk) (T_X5_remove hl h0) ?_
    refine r_goto (tgt := 11) dL_remove_5 (by decide) ?_
    refine r_iconst (v := (0 : Int32)) dL_remove_11 (by decide) ?_
    cases h
    exact r_ireturn dL_remove_12 rfl rfl (by decide) (by decide)
  · by_cases c5 : e4 = "java/lang/IllegalArgumentException"
    · rw [if_pos c5] at h
      subst c5
      cases h
      refine r_invV_c (name := "java/lang/IllegalArgumentException") (As := [.int v1]) (st := []) dL_remove_2 lvL_39 (by unfold RM; decide) (Nat.le_of_ble_eq_true rfl) rfl rfl (pk_ok hk) [] (0, 5, 8, 13) [] rfl (fun z hz => nomatch hz) (by decide) (by decide) wcL_13 wct_IllegalArgumentException rfl (T_X5_remove hl h0) (fun q => ?_)
      refine r_astore_n (lv' := [(2, .ref q), (0, .ref v0), (1, .int v1)]) dL_remove_8 rfl (by decide) rfl ?_
      refine r_iconst (v := (1 : Int32)) dL_remove_9 (by decide) ?_
      exact r_ireturn dL_remove_10 rfl rfl (by decide) (by decide)
    rw [if_neg c5] at h
    cases h

def F_L_normalise (v0 : Nat) (v1 : Int32) (v2 : Nat) (S : Mem) : Option (Int32 × Mem) :=
    (pk 5 S v0).bind fun _ =>
    bdc (F_X5_normalise v0 v1 S) (fun t2 S3 =>
    (psJ S3 v2 (0 : Int32) t2.toInt64).bind fun S5 =>
    some ((0 : Int32), S5))
      (fun e4 S3 => if e4 = "java/lang/IllegalArgumentException" then some ((1 : Int32), S3) else none)
set_option maxRecDepth 100000 in
theorem T_L_normalise {g : GG} {l : Launch} (hl : l.stackTraces = false) {v0 : Nat} {v1 : Int32} {v2 : Nat} {S S' : Mem} {r : Int32} (h : F_L_normalise v0 v1 v2 S = some (r, S')) : CallT g l uL_normalise [.ref v0, .int v1, .ref v2] S (cvI r) S' := by
  refine callT_of (by decide +kernel) hl (Nat.le_of_ble_eq_true rfl) ?_
  show Run g l uL_normalise _ 0 [(0, .ref v0), (1, .int v1), (2, .ref v2)] [] 0 0 S
  unfold F_L_normalise at h
  refine r_aload_n dL_normalise_0 rfl 2 rfl ?_
  refine r_iconst (v := (0 : Int32)) dL_normalise_1 (by decide) ?_
  refine r_aload_n dL_normalise_2 rfl 0 rfl ?_
  refine r_iload_n dL_normalise_3 rfl 1 rfl ?_
  obtain ⟨z1, hk, h⟩ := bd h
  rcases bdc_s h with ⟨t2, S3, h0, h⟩ | ⟨e4, S3, h0, h⟩
  · refine r_invV (As := [.int v1]) (st := [.int ((0 : Int32)), .ref v2]) dL_normalise_4 lvL_43 (by unfold RM; decide) (Nat.le_of_ble_eq_true rfl) rfl rfl (pk_ok hk) (T_X5_normalise hl h0) ?_
    refine r_i2l dL_normalise_7 ?_
    obtain ⟨S5, h0, h⟩ := bd h
    refine q_lastore h0 dL_normalise_8 ?_
    refine r_goto (tgt := 15) dL_normalise_9 (by decide) ?_
    refine r_iconst (v := (0 : Int32)) dL_normalise_15 (by decide) ?_
    cases h
    exact r_ireturn dL_normalise_16 rfl rfl (by decide) (by decide)
  · by_cases c6 : e4 = "java/lang/IllegalArgumentException"
    · rw [if_pos c6] at h
      subst c6
      cases h
      refine r_invV_c (name := "java/lang/IllegalArgumentException") (As := [.int v1]) (st := [.int ((0 : Int32)), .ref v2]) dL_normalise_4 lvL_43 (by unfold RM; decide) (Nat.le_of_ble_eq_true rfl) rfl rfl (pk_ok hk) [] (0, 9, 12, 13) [] rfl (fun z hz => nomatch hz) (by decide) (by decide) wcL_13 wct_IllegalArgumentException rfl (T_X5_normalise hl h0) (fun q => ?_)
      refine r_astore_n (lv' := [(3, .ref q), (0, .ref v0), (1, .int v1), (2, .ref v2)]) dL_normalise_12 rfl (by decide) rfl ?_
      refine r_iconst (v := (1 : Int32)) dL_normalise_13 (by decide) ?_
      exact r_ireturn dL_normalise_14 rfl rfl (by decide) (by decide)
    rw [if_neg c6] at h
    cases h

def F_L_split (v0 : Nat) (v1 : Int32) (v2 : Nat) (S : Mem) : Option (Int32 × Mem) :=
    (pk 5 S v0).bind fun _ =>
    bdc (F_X5_split v0 v1 S) (fun t2 S3 =>
    (psJ S3 v2 (0 : Int32) t2.toInt64).bind fun S5 =>
    some ((0 : Int32), S5))
      (fun e4 S3 => if e4 = "java/lang/IllegalArgumentException" then some ((1 : Int32), S3) else if e4 = "java/lang/IllegalStateException" then some ((2 : Int32), S3) else none)
set_option maxRecDepth 100000 in
theorem T_L_split {g : GG} {l : Launch} (hl : l.stackTraces = false) {v0 : Nat} {v1 : Int32} {v2 : Nat} {S S' : Mem} {r : Int32} (h : F_L_split v0 v1 v2 S = some (r, S')) : CallT g l uL_split [.ref v0, .int v1, .ref v2] S (cvI r) S' := by
  refine callT_of (by decide +kernel) hl (Nat.le_of_ble_eq_true rfl) ?_
  show Run g l uL_split _ 0 [(0, .ref v0), (1, .int v1), (2, .ref v2)] [] 0 0 S
  unfold F_L_split at h
  refine r_aload_n dL_split_0 rfl 2 rfl ?_
  refine r_iconst (v := (0 : Int32)) dL_split_1 (by decide) ?_
  refine r_aload_n dL_split_2 rfl 0 rfl ?_
  refine r_iload_n dL_split_3 rfl 1 rfl ?_
  obtain ⟨z1, hk, h⟩ := bd h
  rcases bdc_s h with ⟨t2, S3, h0, h⟩ | ⟨e4, S3, h0, h⟩
  · refine r_invV (As := [.int v1]) (st := [.int ((0 : Int32)), .ref v2]) dL_split_4 lvL_47 (by unfold RM; decide) (Nat.le_of_ble_eq_true rfl) rfl rfl (pk_ok hk) (T_X5_split hl h0) ?_
    refine r_i2l dL_split_7 ?_
    obtain ⟨S5, h0, h⟩ := bd h
    refine q_lastore h0 dL_split_8 ?_
    refine r_goto (tgt := 18) dL_split_9 (by decide) ?_
    refine r_iconst (v := (0 : Int32)) dL_split_18 (by decide) ?_
    cases h
    exact r_ireturn dL_split_19 rfl rfl (by decide) (by decide)
  · by_cases c6 : e4 = "java/lang/IllegalArgumentException"
    · rw [if_pos c6] at h
      subst c6
      cases h
      refine r_invV_c (name := "java/lang/IllegalArgumentException") (As := [.int v1]) (st := [.int ((0 : Int32)), .ref v2]) dL_split_4 lvL_47 (by unfold RM; decide) (Nat.le_of_ble_eq_true rfl) rfl rfl (pk_ok hk) [] (0, 9, 12, 13) [(0, 9, 15, 15)] rfl (fun z hz => nomatch hz) (by decide) (by decide) wcL_13 wct_IllegalArgumentException rfl (T_X5_split hl h0) (fun q => ?_)
      refine r_astore_n (lv' := [(3, .ref q), (0, .ref v0), (1, .int v1), (2, .ref v2)]) dL_split_12 rfl (by decide) rfl ?_
      refine r_iconst (v := (1 : Int32)) dL_split_13 (by decide) ?_
      exact r_ireturn dL_split_14 rfl rfl (by decide) (by decide)
    rw [if_neg c6] at h
    by_cases c7 : e4 = "java/lang/IllegalStateException"
    · rw [if_pos c7] at h
      subst c7
      cases h
      refine r_invV_c (name := "java/lang/IllegalStateException") (As := [.int v1]) (st := [.int ((0 : Int32)), .ref v2]) dL_split_4 lvL_47 (by unfold RM; decide) (Nat.le_of_ble_eq_true rfl) rfl rfl (pk_ok hk) [(0, 9, 12, 13)] (0, 9, 15, 15) [] rfl (fun z hz => by rcases List.mem_singleton.mp hz with rfl; exact ⟨by decide, "java/lang/IllegalArgumentException", wcL_13, by decide⟩) (by decide) (by decide) wcL_15 wct_IllegalStateException rfl (T_X5_split hl h0) (fun q => ?_)
      refine r_astore_n (lv' := [(3, .ref q), (0, .ref v0), (1, .int v1), (2, .ref v2)]) dL_split_15 rfl (by decide) rfl ?_
      refine r_iconst (v := (2 : Int32)) dL_split_16 (by decide) ?_
      exact r_ireturn dL_split_17 rfl rfl (by decide) (by decide)
    rw [if_neg c7] at h
    cases h

def F_L_join (v0 : Nat) (v1 : Int32) (S : Mem) : Option (Int32 × Mem) :=
    (pk 5 S v0).bind fun _ =>
    bdc (F_X5_join v0 v1 S) (fun _ S3 =>
    some ((0 : Int32), S3))
      (fun e4 S3 => if e4 = "java/lang/IllegalArgumentException" then some ((1 : Int32), S3) else if e4 = "java/util/NoSuchElementException" then some ((2 : Int32), S3) else if e4 = "java/lang/IllegalStateException" then some ((3 : Int32), S3) else none)
set_option maxRecDepth 100000 in
theorem T_L_join {g : GG} {l : Launch} (hl : l.stackTraces = false) {v0 : Nat} {v1 : Int32} {S S' : Mem} {r : Int32} (h : F_L_join v0 v1 S = some (r, S')) : CallT g l uL_join [.ref v0, .int v1] S (cvI r) S' := by
  refine callT_of (by decide +kernel) hl (Nat.le_of_ble_eq_true rfl) ?_
  show Run g l uL_join _ 0 [(0, .ref v0), (1, .int v1)] [] 0 0 S
  unfold F_L_join at h
  refine r_aload_n dL_join_0 rfl 0 rfl ?_
  refine r_iload_n dL_join_1 rfl 1 rfl ?_
  obtain ⟨z1, hk, h⟩ := bd h
  rcases bdc_s h with ⟨t2, S3, h0, h⟩ | ⟨e4, S3, h0, h⟩
  · refine r_invV (As := [.int v1]) (st := []) dL_join_2 lvL_50 (by unfold RM; decide) (Nat.le_of_ble_eq_true rfl) rfl rfl (pk_ok hk) (T_X5_join hl h0) ?_
    refine r_goto (tgt := 17) dL_join_5 (by decide) ?_
    refine r_iconst (v := (0 : Int32)) dL_join_17 (by decide) ?_
    cases h
    exact r_ireturn dL_join_18 rfl rfl (by decide) (by decide)
  · by_cases c5 : e4 = "java/lang/IllegalArgumentException"
    · rw [if_pos c5] at h
      subst c5
      cases h
      refine r_invV_c (name := "java/lang/IllegalArgumentException") (As := [.int v1]) (st := []) dL_join_2 lvL_50 (by unfold RM; decide) (Nat.le_of_ble_eq_true rfl) rfl rfl (pk_ok hk) [] (0, 5, 8, 13) [(0, 5, 11, 53), (0, 5, 14, 15)] rfl (fun z hz => nomatch hz) (by decide) (by decide) wcL_13 wct_IllegalArgumentException rfl (T_X5_join hl h0) (fun q => ?_)
      refine r_astore_n (lv' := [(2, .ref q), (0, .ref v0), (1, .int v1)]) dL_join_8 rfl (by decide) rfl ?_
      refine r_iconst (v := (1 : Int32)) dL_join_9 (by decide) ?_
      exact r_ireturn dL_join_10 rfl rfl (by decide) (by decide)
    rw [if_neg c5] at h
    by_cases c6 : e4 = "java/util/NoSuchElementException"
    · rw [if_pos c6] at h
      subst c6
      cases h
      refine r_invV_c (name := "java/util/NoSuchElementException") (As := [.int v1]) (st := []) dL_join_2 lvL_50 (by unfold RM; decide) (Nat.le_of_ble_eq_true rfl) rfl rfl (pk_ok hk) [(0, 5, 8, 13)] (0, 5, 11, 53) [(0, 5, 14, 15)] rfl (fun z hz => by rcases List.mem_singleton.mp hz with rfl; exact ⟨by decide, "java/lang/IllegalArgumentException", wcL_13, by decide⟩) (by decide) (by decide) wcL_53 wct_NoSuchElementException rfl (T_X5_join hl h0) (fun q => ?_)
      refine r_astore_n (lv' := [(2, .ref q), (0, .ref v0), (1, .int v1)]) dL_join_11 rfl (by decide) rfl ?_
      refine r_iconst (v := (2 : Int32)) dL_join_12 (by decide) ?_
      exact r_ireturn dL_join_13 rfl rfl (by decide) (by decide)
    rw [if_neg c6] at h
    by_cases c7 : e4 = "java/lang/IllegalStateException"
    · rw [if_pos c7] at h
      subst c7
      cases h
      refine r_invV_c (name := "java/lang/IllegalStateException") (As := [.int v1]) (st := []) dL_join_2 lvL_50 (by unfold RM; decide) (Nat.le_of_ble_eq_true rfl) rfl rfl (pk_ok hk) [(0, 5, 8, 13), (0, 5, 11, 53)] (0, 5, 14, 15) [] rfl (fun z hz => by rcases List.mem_cons.mp hz with rfl | hz; exact ⟨by decide, "java/lang/IllegalArgumentException", wcL_13, by decide⟩; rcases List.mem_singleton.mp hz with rfl; exact ⟨by decide, "java/util/NoSuchElementException", wcL_53, by decide⟩) (by decide) (by decide) wcL_15 wct_IllegalStateException rfl (T_X5_join hl h0) (fun q => ?_)
      refine r_astore_n (lv' := [(2, .ref q), (0, .ref v0), (1, .int v1)]) dL_join_14 rfl (by decide) rfl ?_
      refine r_iconst (v := (3 : Int32)) dL_join_15 (by decide) ?_
      exact r_ireturn dL_join_16 rfl rfl (by decide) (by decide)
    rw [if_neg c7] at h
    cases h

def F_L_written (v0 : Nat) (v1 : Int32) (v2 : Int32) (v3 : Nat) (S : Mem) : Option (Int32 × Mem) :=
    (pk 5 S v0).bind fun _ =>
    bdc (F_X5_written v0 v1 v2 S) (fun t2 S3 =>
    (psJ S3 v3 (0 : Int32) t2.toInt64).bind fun S5 =>
    some ((0 : Int32), S5))
      (fun e4 S3 => if e4 = "java/lang/IllegalArgumentException" then some ((1 : Int32), S3) else if e4 = "java/lang/IndexOutOfBoundsException" then some ((2 : Int32), S3) else none)
set_option maxRecDepth 100000 in
theorem T_L_written {g : GG} {l : Launch} (hl : l.stackTraces = false) {v0 : Nat} {v1 : Int32} {v2 : Int32} {v3 : Nat} {S S' : Mem} {r : Int32} (h : F_L_written v0 v1 v2 v3 S = some (r, S')) : CallT g l uL_written [.ref v0, .int v1, .int v2, .ref v3] S (cvI r) S' := by
  refine callT_of (by decide +kernel) hl (Nat.le_of_ble_eq_true rfl) ?_
  show Run g l uL_written _ 0 [(0, .ref v0), (1, .int v1), (2, .int v2), (3, .ref v3)] [] 0 0 S
  unfold F_L_written at h
  refine r_aload_n dL_written_0 rfl 3 rfl ?_
  refine r_iconst (v := (0 : Int32)) dL_written_1 (by decide) ?_
  refine r_aload_n dL_written_2 rfl 0 rfl ?_
  refine r_iload_n dL_written_3 rfl 1 rfl ?_
  refine r_iload_n dL_written_4 rfl 2 rfl ?_
  obtain ⟨z1, hk, h⟩ := bd h
  rcases bdc_s h with ⟨t2, S3, h0, h⟩ | ⟨e4, S3, h0, h⟩
  · refine r_invV (As := [.int v1, .int v2]) (st := [.int ((0 : Int32)), .ref v3]) dL_written_5 lvL_55 (by unfold RM; decide) (Nat.le_of_ble_eq_true rfl) rfl rfl (pk_ok hk) (T_X5_written hl h0) ?_
    refine r_i2l dL_written_8 ?_
    obtain ⟨S5, h0, h⟩ := bd h
    refine q_lastore h0 dL_written_9 ?_
    refine r_goto (tgt := 21) dL_written_10 (by decide) ?_
    refine r_iconst (v := (0 : Int32)) dL_written_21 (by decide) ?_
    cases h
    exact r_ireturn dL_written_22 rfl rfl (by decide) (by decide)
  · by_cases c6 : e4 = "java/lang/IllegalArgumentException"
    · rw [if_pos c6] at h
      subst c6
      cases h
      refine r_invV_c (name := "java/lang/IllegalArgumentException") (As := [.int v1, .int v2]) (st := [.int ((0 : Int32)), .ref v3]) dL_written_5 lvL_55 (by unfold RM; decide) (Nat.le_of_ble_eq_true rfl) rfl rfl (pk_ok hk) [] (0, 10, 13, 13) [(0, 10, 17, 59)] rfl (fun z hz => nomatch hz) (by decide) (by decide) wcL_13 wct_IllegalArgumentException rfl (T_X5_written hl h0) (fun q => ?_)
      refine r_astore (lv' := [(4, .ref q), (0, .ref v0), (1, .int v1), (2, .int v2), (3, .ref v3)]) dL_written_13 (by decide) rfl ?_
      refine r_iconst (v := (1 : Int32)) dL_written_15 (by decide) ?_
      exact r_ireturn dL_written_16 rfl rfl (by decide) (by decide)
    rw [if_neg c6] at h
    by_cases c7 : e4 = "java/lang/IndexOutOfBoundsException"
    · rw [if_pos c7] at h
      subst c7
      cases h
      refine r_invV_c (name := "java/lang/IndexOutOfBoundsException") (As := [.int v1, .int v2]) (st := [.int ((0 : Int32)), .ref v3]) dL_written_5 lvL_55 (by unfold RM; decide) (Nat.le_of_ble_eq_true rfl) rfl rfl (pk_ok hk) [(0, 10, 13, 13)] (0, 10, 17, 59) [] rfl (fun z hz => by rcases List.mem_singleton.mp hz with rfl; exact ⟨by decide, "java/lang/IllegalArgumentException", wcL_13, by decide⟩) (by decide) (by decide) wcL_59 wct_IndexOutOfBoundsException rfl (T_X5_written hl h0) (fun q => ?_)
      refine r_astore (lv' := [(4, .ref q), (0, .ref v0), (1, .int v1), (2, .int v2), (3, .ref v3)]) dL_written_17 (by decide) rfl ?_
      refine r_iconst (v := (2 : Int32)) dL_written_19 (by decide) ?_
      exact r_ireturn dL_written_20 rfl rfl (by decide) (by decide)
    rw [if_neg c7] at h
    cases h

def F_L_type (v0 : Nat) (v1 : Int64) (v3 : Int32) (S : Mem) : Option (Int32 × Mem) :=
    (pk 5 S v0).bind fun _ =>
    bdc (F_X5_type v0 v1 v3 S) (fun _ S3 =>
    some ((0 : Int32), S3))
      (fun e4 S3 => if e4 = "java/lang/IllegalArgumentException" then some ((1 : Int32), S3) else if e4 = "java/lang/IllegalStateException" then some ((2 : Int32), S3) else none)
set_option maxRecDepth 100000 in
theorem T_L_type {g : GG} {l : Launch} (hl : l.stackTraces = false) {v0 : Nat} {v1 : Int64} {v3 : Int32} {S S' : Mem} {r : Int32} (h : F_L_type v0 v1 v3 S = some (r, S')) : CallT g l uL_type [.ref v0, .long v1, .int v3] S (cvI r) S' := by
  refine callT_of (by decide +kernel) hl (Nat.le_of_ble_eq_true rfl) ?_
  show Run g l uL_type _ 0 [(0, .ref v0), (1, .long v1), (3, .int v3)] [] 0 0 S
  unfold F_L_type at h
  refine r_aload_n dL_type_0 rfl 0 rfl ?_
  refine r_lload_n dL_type_1 rfl 1 rfl ?_
  refine r_iload_n dL_type_2 rfl 2 rfl ?_
  obtain ⟨z1, hk, h⟩ := bd h
  rcases bdc_s h with ⟨t2, S3, h0, h⟩ | ⟨e4, S3, h0, h⟩
  · refine r_invV (As := [.long v1, .int v3]) (st := []) dL_type_3 lvL_61 (by unfold RM; decide) (Nat.le_of_ble_eq_true rfl) rfl rfl (pk_ok hk) (T_X5_type hl h0) ?_
    refine r_goto (tgt := 17) dL_type_6 (by decide) ?_
    refine r_iconst (v := (0 : Int32)) dL_type_17 (by decide) ?_
    cases h
    exact r_ireturn dL_type_18 rfl rfl (by decide) (by decide)
  · by_cases c5 : e4 = "java/lang/IllegalArgumentException"
    · rw [if_pos c5] at h
      subst c5
      cases h
      refine r_invV_c (name := "java/lang/IllegalArgumentException") (As := [.long v1, .int v3]) (st := []) dL_type_3 lvL_61 (by unfold RM; decide) (Nat.le_of_ble_eq_true rfl) rfl rfl (pk_ok hk) [] (0, 6, 9, 13) [(0, 6, 13, 15)] rfl (fun z hz => nomatch hz) (by decide) (by decide) wcL_13 wct_IllegalArgumentException rfl (T_X5_type hl h0) (fun q => ?_)
      refine r_astore (lv' := [(4, .ref q), (0, .ref v0), (1, .long v1), (3, .int v3)]) dL_type_9 (by decide) rfl ?_
      refine r_iconst (v := (1 : Int32)) dL_type_11 (by decide) ?_
      exact r_ireturn dL_type_12 rfl rfl (by decide) (by decide)
    rw [if_neg c5] at h
    by_cases c6 : e4 = "java/lang/IllegalStateException"
    · rw [if_pos c6] at h
      subst c6
      cases h
      refine r_invV_c (name := "java/lang/IllegalStateException") (As := [.long v1, .int v3]) (st := []) dL_type_3 lvL_61 (by unfold RM; decide) (Nat.le_of_ble_eq_true rfl) rfl rfl (pk_ok hk) [(0, 6, 9, 13)] (0, 6, 13, 15) [] rfl (fun z hz => by rcases List.mem_singleton.mp hz with rfl; exact ⟨by decide, "java/lang/IllegalArgumentException", wcL_13, by decide⟩) (by decide) (by decide) wcL_15 wct_IllegalStateException rfl (T_X5_type hl h0) (fun q => ?_)
      refine r_astore (lv' := [(4, .ref q), (0, .ref v0), (1, .long v1), (3, .int v3)]) dL_type_13 (by decide) rfl ?_
      refine r_iconst (v := (2 : Int32)) dL_type_15 (by decide) ?_
      exact r_ireturn dL_type_16 rfl rfl (by decide) (by decide)
    rw [if_neg c6] at h
    cases h

def F_L_read (v0 : Nat) (v1 : Nat) (S : Mem) : Option (Int32 × Mem) :=
    (pk 5 S v0).bind fun _ =>
    bdc (F_X5_read v0 S) (fun t2 S3 =>
    (psJ S3 v1 (0 : Int32) t2.toInt64).bind fun S5 =>
    some ((0 : Int32), S5))
      (fun e4 S3 => if e4 = "java/lang/IllegalArgumentException" then some ((1 : Int32), S3) else if e4 = "java/lang/IllegalStateException" then some ((2 : Int32), S3) else none)
set_option maxRecDepth 100000 in
theorem T_L_read {g : GG} {l : Launch} (hl : l.stackTraces = false) {v0 : Nat} {v1 : Nat} {S S' : Mem} {r : Int32} (h : F_L_read v0 v1 S = some (r, S')) : CallT g l uL_read [.ref v0, .ref v1] S (cvI r) S' := by
  refine callT_of (by decide +kernel) hl (Nat.le_of_ble_eq_true rfl) ?_
  show Run g l uL_read _ 0 [(0, .ref v0), (1, .ref v1)] [] 0 0 S
  unfold F_L_read at h
  refine r_aload_n dL_read_0 rfl 1 rfl ?_
  refine r_iconst (v := (0 : Int32)) dL_read_1 (by decide) ?_
  refine r_aload_n dL_read_2 rfl 0 rfl ?_
  obtain ⟨z1, hk, h⟩ := bd h
  rcases bdc_s h with ⟨t2, S3, h0, h⟩ | ⟨e4, S3, h0, h⟩
  · refine r_invV (As := []) (st := [.int ((0 : Int32)), .ref v1]) dL_read_3 lvL_65 (by unfold RM; decide) (Nat.le_of_ble_eq_true rfl) rfl rfl (pk_ok hk) (T_X5_read hl h0) ?_
    refine r_i2l dL_read_6 ?_
    obtain ⟨S5, h0, h⟩ := bd h
    refine q_lastore h0 dL_read_7 ?_
    refine r_goto (tgt := 17) dL_read_8 (by decide) ?_
    refine r_iconst (v := (0 : Int32)) dL_read_17 (by decide) ?_
    cases h
    exact r_ireturn dL_read_18 rfl rfl (by decide) (by decide)
  · by_cases c6 : e4 = "java/lang/IllegalArgumentException"
    · rw [if_pos c6] at h
      subst c6
      cases h
      refine r_invV_c (name := "java/lang/IllegalArgumentException") (As := []) (st := [.int ((0 : Int32)), .ref v1]) dL_read_3 lvL_65 (by unfold RM; decide) (Nat.le_of_ble_eq_true rfl) rfl rfl (pk_ok hk) [] (0, 8, 11, 13) [(0, 8, 14, 15)] rfl (fun z hz => nomatch hz) (by decide) (by decide) wcL_13 wct_IllegalArgumentException rfl (T_X5_read hl h0) (fun q => ?_)
      refine r_astore_n (lv' := [(2, .ref q), (0, .ref v0), (1, .ref v1)]) dL_read_11 rfl (by decide) rfl ?_
      refine r_iconst (v := (1 : Int32)) dL_read_12 (by decide) ?_
      exact r_ireturn dL_read_13 rfl rfl (by decide) (by decide)
    rw [if_neg c6] at h
    by_cases c7 : e4 = "java/lang/IllegalStateException"
    · rw [if_pos c7] at h
      subst c7
      cases h
      refine r_invV_c (name := "java/lang/IllegalStateException") (As := []) (st := [.int ((0 : Int32)), .ref v1]) dL_read_3 lvL_65 (by unfold RM; decide) (Nat.le_of_ble_eq_true rfl) rfl rfl (pk_ok hk) [(0, 8, 11, 13)] (0, 8, 14, 15) [] rfl (fun z hz => by rcases List.mem_singleton.mp hz with rfl; exact ⟨by decide, "java/lang/IllegalArgumentException", wcL_13, by decide⟩) (by decide) (by decide) wcL_15 wct_IllegalStateException rfl (T_X5_read hl h0) (fun q => ?_)
      refine r_astore_n (lv' := [(2, .ref q), (0, .ref v0), (1, .ref v1)]) dL_read_14 rfl (by decide) rfl ?_
      refine r_iconst (v := (2 : Int32)) dL_read_15 (by decide) ?_
      exact r_ireturn dL_read_16 rfl rfl (by decide) (by decide)
    rw [if_neg c7] at h
    cases h

def F_L_about (v0 : Nat) (v1 : Int32) (v2 : Int32) (v3 : Nat) (S : Mem) : Option (Int32 × Mem) :=
    (pk 5 S v0).bind fun _ =>
    bdc (F_X5_about v0 v1 v2 S) (fun t2 S3 =>
    (psJ S3 v3 (0 : Int32) t2.toInt64).bind fun S5 =>
    some ((0 : Int32), S5))
      (fun e4 S3 => if e4 = "java/lang/IllegalArgumentException" then some ((1 : Int32), S3) else none)
set_option maxRecDepth 100000 in
theorem T_L_about {g : GG} {l : Launch} (hl : l.stackTraces = false) {v0 : Nat} {v1 : Int32} {v2 : Int32} {v3 : Nat} {S S' : Mem} {r : Int32} (h : F_L_about v0 v1 v2 v3 S = some (r, S')) : CallT g l uL_about [.ref v0, .int v1, .int v2, .ref v3] S (cvI r) S' := by
  refine callT_of (by decide +kernel) hl (Nat.le_of_ble_eq_true rfl) ?_
  show Run g l uL_about _ 0 [(0, .ref v0), (1, .int v1), (2, .int v2), (3, .ref v3)] [] 0 0 S
  unfold F_L_about at h
  refine r_aload_n dL_about_0 rfl 3 rfl ?_
  refine r_iconst (v := (0 : Int32)) dL_about_1 (by decide) ?_
  refine r_aload_n dL_about_2 rfl 0 rfl ?_
  refine r_iload_n dL_about_3 rfl 1 rfl ?_
  refine r_iload_n dL_about_4 rfl 2 rfl ?_
  obtain ⟨z1, hk, h⟩ := bd h
  rcases bdc_s h with ⟨t2, S3, h0, h⟩ | ⟨e4, S3, h0, h⟩
  · refine r_invV (As := [.int v1, .int v2]) (st := [.int ((0 : Int32)), .ref v3]) dL_about_5 lvL_68 (by unfold RM; decide) (Nat.le_of_ble_eq_true rfl) rfl rfl (pk_ok hk) (T_X5_about hl h0) ?_
    refine r_i2l dL_about_8 ?_
    obtain ⟨S5, h0, h⟩ := bd h
    refine q_lastore h0 dL_about_9 ?_
    refine r_goto (tgt := 17) dL_about_10 (by decide) ?_
    refine r_iconst (v := (0 : Int32)) dL_about_17 (by decide) ?_
    cases h
    exact r_ireturn dL_about_18 rfl rfl (by decide) (by decide)
  · by_cases c6 : e4 = "java/lang/IllegalArgumentException"
    · rw [if_pos c6] at h
      subst c6
      cases h
      refine r_invV_c (name := "java/lang/IllegalArgumentException") (As := [.int v1, .int v2]) (st := [.int ((0 : Int32)), .ref v3]) dL_about_5 lvL_68 (by unfold RM; decide) (Nat.le_of_ble_eq_true rfl) rfl rfl (pk_ok hk) [] (0, 10, 13, 13) [] rfl (fun z hz => nomatch hz) (by decide) (by decide) wcL_13 wct_IllegalArgumentException rfl (T_X5_about hl h0) (fun q => ?_)
      refine r_astore (lv' := [(4, .ref q), (0, .ref v0), (1, .int v1), (2, .int v2), (3, .ref v3)]) dL_about_13 (by decide) rfl ?_
      refine r_iconst (v := (1 : Int32)) dL_about_15 (by decide) ?_
      exact r_ireturn dL_about_16 rfl rfl (by decide) (by decide)
    rw [if_neg c6] at h
    cases h

def F_L_base (v0 : Nat) (v1 : Int32) (v2 : Int32) (v3 : Int32) (v4 : Nat) (S : Mem) : Option (Int32 × Mem) :=
    (pk 5 S v0).bind fun _ =>
    bdc (F_X5_base v0 v1 v2 v3 S) (fun t2 S3 =>
    (psJ S3 v4 (0 : Int32) t2.toInt64).bind fun S5 =>
    some ((0 : Int32), S5))
      (fun e4 S3 => if e4 = "java/lang/IllegalArgumentException" then some ((1 : Int32), S3) else if e4 = "java/lang/IndexOutOfBoundsException" then some ((2 : Int32), S3) else none)
set_option maxRecDepth 100000 in
theorem T_L_base {g : GG} {l : Launch} (hl : l.stackTraces = false) {v0 : Nat} {v1 : Int32} {v2 : Int32} {v3 : Int32} {v4 : Nat} {S S' : Mem} {r : Int32} (h : F_L_base v0 v1 v2 v3 v4 S = some (r, S')) : CallT g l uL_base [.ref v0, .int v1, .int v2, .int v3, .ref v4] S (cvI r) S' := by
  refine callT_of (by decide +kernel) hl (Nat.le_of_ble_eq_true rfl) ?_
  show Run g l uL_base _ 0 [(0, .ref v0), (1, .int v1), (2, .int v2), (3, .int v3), (4, .ref v4)] [] 0 0 S
  unfold F_L_base at h
  refine r_aload dL_base_0 4 rfl ?_
  refine r_iconst (v := (0 : Int32)) dL_base_2 (by decide) ?_
  refine r_aload_n dL_base_3 rfl 0 rfl ?_
  refine r_iload_n dL_base_4 rfl 1 rfl ?_
  refine r_iload_n dL_base_5 rfl 2 rfl ?_
  refine r_iload_n dL_base_6 rfl 3 rfl ?_
  obtain ⟨z1, hk, h⟩ := bd h
  rcases bdc_s h with ⟨t2, S3, h0, h⟩ | ⟨e4, S3, h0, h⟩
  · refine r_invV (As := [.int v1, .int v2, .int v3]) (st := [.int ((0 : Int32)), .ref v4]) dL_base_7 lvL_71 (by unfold RM; decide) (Nat.le_of_ble_eq_true rfl) rfl rfl (pk_ok hk) (T_X5_base hl h0) ?_
    refine r_i2l dL_base_10 ?_
    obtain ⟨S5, h0, h⟩ := bd h
    refine q_lastore h0 dL_base_11 ?_
    refine r_goto (tgt := 23) dL_base_12 (by decide) ?_
    refine r_iconst (v := (0 : Int32)) dL_base_23 (by decide) ?_
    cases h
    exact r_ireturn dL_base_24 rfl rfl (by decide) (by decide)
  · by_cases c6 : e4 = "java/lang/IllegalArgumentException"
    · rw [if_pos c6] at h
      subst c6
      cases h
      refine r_invV_c (name := "java/lang/IllegalArgumentException") (As := [.int v1, .int v2, .int v3]) (st := [.int ((0 : Int32)), .ref v4]) dL_base_7 lvL_71 (by unfold RM; decide) (Nat.le_of_ble_eq_true rfl) rfl rfl (pk_ok hk) [] (0, 12, 15, 13) [(0, 12, 19, 59)] rfl (fun z hz => nomatch hz) (by decide) (by decide) wcL_13 wct_IllegalArgumentException rfl (T_X5_base hl h0) (fun q => ?_)
      refine r_astore (lv' := [(5, .ref q), (0, .ref v0), (1, .int v1), (2, .int v2), (3, .int v3), (4, .ref v4)]) dL_base_15 (by decide) rfl ?_
      refine r_iconst (v := (1 : Int32)) dL_base_17 (by decide) ?_
      exact r_ireturn dL_base_18 rfl rfl (by decide) (by decide)
    rw [if_neg c6] at h
    by_cases c7 : e4 = "java/lang/IndexOutOfBoundsException"
    · rw [if_pos c7] at h
      subst c7
      cases h
      refine r_invV_c (name := "java/lang/IndexOutOfBoundsException") (As := [.int v1, .int v2, .int v3]) (st := [.int ((0 : Int32)), .ref v4]) dL_base_7 lvL_71 (by unfold RM; decide) (Nat.le_of_ble_eq_true rfl) rfl rfl (pk_ok hk) [(0, 12, 15, 13)] (0, 12, 19, 59) [] rfl (fun z hz => by rcases List.mem_singleton.mp hz with rfl; exact ⟨by decide, "java/lang/IllegalArgumentException", wcL_13, by decide⟩) (by decide) (by decide) wcL_59 wct_IndexOutOfBoundsException rfl (T_X5_base hl h0) (fun q => ?_)
      refine r_astore (lv' := [(5, .ref q), (0, .ref v0), (1, .int v1), (2, .int v2), (3, .int v3), (4, .ref v4)]) dL_base_19 (by decide) rfl ?_
      refine r_iconst (v := (2 : Int32)) dL_base_21 (by decide) ?_
      exact r_ireturn dL_base_22 rfl rfl (by decide) (by decide)
    rw [if_neg c7] at h
    cases h

def F_L_found (v0 : Nat) (v1 : Int32) (v2 : Int32) (v3 : Nat) (S : Mem) : Option (Int32 × Mem) :=
    (pk 5 S v0).bind fun _ =>
    bdc (F_X5_found v0 v1 v2 S) (fun t2 S3 =>
    (psJ S3 v3 (0 : Int32) t2.toInt64).bind fun S5 =>
    some ((0 : Int32), S5))
      (fun e4 S3 => if e4 = "java/lang/IllegalArgumentException" then some ((1 : Int32), S3) else none)
set_option maxRecDepth 100000 in
theorem T_L_found {g : GG} {l : Launch} (hl : l.stackTraces = false) {v0 : Nat} {v1 : Int32} {v2 : Int32} {v3 : Nat} {S S' : Mem} {r : Int32} (h : F_L_found v0 v1 v2 v3 S = some (r, S')) : CallT g l uL_found [.ref v0, .int v1, .int v2, .ref v3] S (cvI r) S' := by
  refine callT_of (by decide +kernel) hl (Nat.le_of_ble_eq_true rfl) ?_
  show Run g l uL_found _ 0 [(0, .ref v0), (1, .int v1), (2, .int v2), (3, .ref v3)] [] 0 0 S
  unfold F_L_found at h
  refine r_aload_n dL_found_0 rfl 3 rfl ?_
  refine r_iconst (v := (0 : Int32)) dL_found_1 (by decide) ?_
  refine r_aload_n dL_found_2 rfl 0 rfl ?_
  refine r_iload_n dL_found_3 rfl 1 rfl ?_
  refine r_iload_n dL_found_4 rfl 2 rfl ?_
  obtain ⟨z1, hk, h⟩ := bd h
  rcases bdc_s h with ⟨t2, S3, h0, h⟩ | ⟨e4, S3, h0, h⟩
  · refine r_invV (As := [.int v1, .int v2]) (st := [.int ((0 : Int32)), .ref v3]) dL_found_5 lvL_75 (by unfold RM; decide) (Nat.le_of_ble_eq_true rfl) rfl rfl (pk_ok hk) (T_X5_found hl h0) ?_
    refine r_i2l dL_found_8 ?_
    obtain ⟨S5, h0, h⟩ := bd h
    refine q_lastore h0 dL_found_9 ?_
    refine r_goto (tgt := 17) dL_found_10 (by decide) ?_
    refine r_iconst (v := (0 : Int32)) dL_found_17 (by decide) ?_
    cases h
    exact r_ireturn dL_found_18 rfl rfl (by decide) (by decide)
  · by_cases c6 : e4 = "java/lang/IllegalArgumentException"
    · rw [if_pos c6] at h
      subst c6
      cases h
      refine r_invV_c (name := "java/lang/IllegalArgumentException") (As := [.int v1, .int v2]) (st := [.int ((0 : Int32)), .ref v3]) dL_found_5 lvL_75 (by unfold RM; decide) (Nat.le_of_ble_eq_true rfl) rfl rfl (pk_ok hk) [] (0, 10, 13, 13) [] rfl (fun z hz => nomatch hz) (by decide) (by decide) wcL_13 wct_IllegalArgumentException rfl (T_X5_found hl h0) (fun q => ?_)
      refine r_astore (lv' := [(4, .ref q), (0, .ref v0), (1, .int v1), (2, .int v2), (3, .ref v3)]) dL_found_13 (by decide) rfl ?_
      refine r_iconst (v := (1 : Int32)) dL_found_15 (by decide) ?_
      exact r_ireturn dL_found_16 rfl rfl (by decide) (by decide)
    rw [if_neg c6] at h
    cases h

def F_L_mean (v0 : Nat) (v1 : Int32) (v2 : Int32) (v3 : Nat) (S : Mem) : Option (Int32 × Mem) :=
    (pk 5 S v0).bind fun _ =>
    bdc (F_X5_mean v0 v1 v2 S) (fun t2 S3 =>
    (pf2d t2).bind fun t5 =>
    (psD S3 v3 (0 : Int32) t5).bind fun S6 =>
    some ((0 : Int32), S6))
      (fun e4 S3 => if e4 = "java/lang/IllegalArgumentException" then some ((1 : Int32), S3) else if e4 = "java/util/NoSuchElementException" then some ((2 : Int32), S3) else none)
set_option maxRecDepth 100000 in
theorem T_L_mean {g : GG} {l : Launch} (hl : l.stackTraces = false) {v0 : Nat} {v1 : Int32} {v2 : Int32} {v3 : Nat} {S S' : Mem} {r : Int32} (h : F_L_mean v0 v1 v2 v3 S = some (r, S')) : CallT g l uL_mean [.ref v0, .int v1, .int v2, .ref v3] S (cvI r) S' := by
  refine callT_of (by decide +kernel) hl (Nat.le_of_ble_eq_true rfl) ?_
  show Run g l uL_mean _ 0 [(0, .ref v0), (1, .int v1), (2, .int v2), (3, .ref v3)] [] 0 0 S
  unfold F_L_mean at h
  refine r_aload_n dL_mean_0 rfl 3 rfl ?_
  refine r_iconst (v := (0 : Int32)) dL_mean_1 (by decide) ?_
  refine r_aload_n dL_mean_2 rfl 0 rfl ?_
  refine r_iload_n dL_mean_3 rfl 1 rfl ?_
  refine r_iload_n dL_mean_4 rfl 2 rfl ?_
  obtain ⟨z1, hk, h⟩ := bd h
  rcases bdc_s h with ⟨t2, S3, h0, h⟩ | ⟨e4, S3, h0, h⟩
  · refine r_invV (As := [.int v1, .int v2]) (st := [.int ((0 : Int32)), .ref v3]) dL_mean_5 lvL_78 (by unfold RM; decide) (Nat.le_of_ble_eq_true rfl) rfl rfl (pk_ok hk) (T_X5_mean hl h0) ?_
    obtain ⟨t5, h0, h⟩ := bd h
    refine q_f2d h0 dL_mean_8 ?_
    obtain ⟨S6, h0, h⟩ := bd h
    refine q_dastore h0 dL_mean_9 ?_
    refine r_goto (tgt := 21) dL_mean_10 (by decide) ?_
    refine r_iconst (v := (0 : Int32)) dL_mean_21 (by decide) ?_
    cases h
    exact r_ireturn dL_mean_22 rfl rfl (by decide) (by decide)
  · by_cases c7 : e4 = "java/lang/IllegalArgumentException"
    · rw [if_pos c7] at h
      subst c7
      cases h
      refine r_invV_c (name := "java/lang/IllegalArgumentException") (As := [.int v1, .int v2]) (st := [.int ((0 : Int32)), .ref v3]) dL_mean_5 lvL_78 (by unfold RM; decide) (Nat.le_of_ble_eq_true rfl) rfl rfl (pk_ok hk) [] (0, 10, 13, 13) [(0, 10, 17, 53)] rfl (fun z hz => nomatch hz) (by decide) (by decide) wcL_13 wct_IllegalArgumentException rfl (T_X5_mean hl h0) (fun q => ?_)
      refine r_astore (lv' := [(4, .ref q), (0, .ref v0), (1, .int v1), (2, .int v2), (3, .ref v3)]) dL_mean_13 (by decide) rfl ?_
      refine r_iconst (v := (1 : Int32)) dL_mean_15 (by decide) ?_
      exact r_ireturn dL_mean_16 rfl rfl (by decide) (by decide)
    rw [if_neg c7] at h
    by_cases c8 : e4 = "java/util/NoSuchElementException"
    · rw [if_pos c8] at h
      subst c8
      cases h
      refine r_invV_c (name := "java/util/NoSuchElementException") (As := [.int v1, .int v2]) (st := [.int ((0 : Int32)), .ref v3]) dL_mean_5 lvL_78 (by unfold RM; decide) (Nat.le_of_ble_eq_true rfl) rfl rfl (pk_ok hk) [(0, 10, 13, 13)] (0, 10, 17, 53) [] rfl (fun z hz => by rcases List.mem_singleton.mp hz with rfl; exact ⟨by decide, "java/lang/IllegalArgumentException", wcL_13, by decide⟩) (by decide) (by decide) wcL_53 wct_NoSuchElementException rfl (T_X5_mean hl h0) (fun q => ?_)
      refine r_astore (lv' := [(4, .ref q), (0, .ref v0), (1, .int v1), (2, .int v2), (3, .ref v3)]) dL_mean_17 (by decide) rfl ?_
      refine r_iconst (v := (2 : Int32)) dL_mean_19 (by decide) ?_
      exact r_ireturn dL_mean_20 rfl rfl (by decide) (by decide)
    rw [if_neg c8] at h
    cases h

