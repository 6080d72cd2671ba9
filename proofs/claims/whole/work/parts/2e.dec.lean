def F_X6_depth_J47 (v0 : Nat) (v1 : Int32) (v2 : Int32) (v3 : Int32) (s0 : Nat) (s1 : Int32) (S : Mem) : Option Mem :=
    (pk 6 S s0).bind fun _ =>
    bd2 (F_X6_throwing s0 s1 (0 : Int32) S) fun t2 S3 =>
    if t2 = 0 then
      (pk 6 S3 v0).bind fun _ =>
      (F_X6_put v0 (24 : Int32) ((11 : Int32) + v1) v2 S3).bind fun S7 =>
      (pk 6 S7 v0).bind fun _ =>
      (F_X6_put v0 (24 : Int32) (10 : Int32) v3 S7).bind fun S10 =>
      some S10
    else
      some S3
set_option maxRecDepth 100000 in
theorem T_X6_depth_J47 {g : GG} {l : Launch} (hl : l.stackTraces = false) {S' : Mem}  : ∀ (v0 : Nat) (v1 : Int32) (v2 : Int32) (v3 : Int32) (s0 : Nat) (s1 : Int32) (S : Mem), F_X6_depth_J47 v0 v1 v2 v3 s0 s1 S = some S' → Run g l uX6_depth (fin g uX6_depth cvV S') 47 [(0, .ref v0), (1, .int v1), (2, .int v2), (3, .int v3)] [.int s1, .ref s0] 0 0 S := by
  intro v0 v1 v2 v3 s0 s1 S h
  unfold F_X6_depth_J47 at h
  refine r_iconst (v := (0 : Int32)) dX6_depth_47 (by decide) ?_
  obtain ⟨z1, hk, h⟩ := bd h
  obtain ⟨t2, S3, h0, h⟩ := bd2_s h
  refine r_invV (As := [.int s1, .int ((0 : Int32))]) (st := []) dX6_depth_48 lv6_47 (by unfold RM; decide) (Nat.le_of_ble_eq_true rfl) rfl rfl (pk_ok hk) (T_X6_throwing hl h0) ?_
  refine r_if_eq (tgt := 55) dX6_depth_51 (by decide) (fun c4 => ?_) (fun c4 => ?_)
  · rw [if_pos c4] at h
    refine r_aload_n dX6_depth_55 rfl 0 rfl ?_
    refine r_bipush (v := (24 : Int32)) dX6_depth_56 (by decide) ?_
    refine r_bipush (v := (11 : Int32)) dX6_depth_58 (by decide) ?_
    refine r_iload_n dX6_depth_60 rfl 1 rfl ?_
    refine r_iadd dX6_depth_61 ?_
    refine r_iload_n dX6_depth_62 rfl 2 rfl ?_
    obtain ⟨z5, hk, h⟩ := bd h
    obtain ⟨S7, h0, h⟩ := bd h
    refine r_invV (As := [.int ((24 : Int32)), .int ((11 : Int32) + v1), .int v2]) (st := []) dX6_depth_63 lv6_29 (by unfold RM; decide) (Nat.le_of_ble_eq_true rfl) rfl rfl (pk_ok hk) (T_X6_put hl h0) ?_
    refine r_aload_n dX6_depth_66 rfl 0 rfl ?_
    refine r_bipush (v := (24 : Int32)) dX6_depth_67 (by decide) ?_
    refine r_bipush (v := (10 : Int32)) dX6_depth_69 (by decide) ?_
    refine r_iload_n dX6_depth_71 rfl 3 rfl ?_
    obtain ⟨z8, hk, h⟩ := bd h
    obtain ⟨S10, h0, h⟩ := bd h
    refine r_invV (As := [.int ((24 : Int32)), .int ((10 : Int32)), .int v3]) (st := []) dX6_depth_72 lv6_29 (by unfold RM; decide) (Nat.le_of_ble_eq_true rfl) rfl rfl (pk_ok hk) (T_X6_put hl h0) ?_
    cases h
    exact r_return dX6_depth_75 rfl (by decide) (by decide)
  · rw [if_neg c4] at h
    cases h
    exact r_return dX6_depth_54 rfl (by decide) (by decide)

def F_X6_depth_J42 (v0 : Nat) (v1 : Int32) (v2 : Int32) (v3 : Int32) (s0 : Nat) (S : Mem) : Option Mem :=
    F_X6_depth_J47 v0 v1 v2 v3 s0 (1 : Int32) S
set_option maxRecDepth 100000 in
theorem T_X6_depth_J42 {g : GG} {l : Launch} (hl : l.stackTraces = false) {S' : Mem}  : ∀ (v0 : Nat) (v1 : Int32) (v2 : Int32) (v3 : Int32) (s0 : Nat) (S : Mem), F_X6_depth_J42 v0 v1 v2 v3 s0 S = some S' → Run g l uX6_depth (fin g uX6_depth cvV S') 42 [(0, .ref v0), (1, .int v1), (2, .int v2), (3, .int v3)] [.ref s0] 0 0 S := by
  intro v0 v1 v2 v3 s0 S h
  unfold F_X6_depth_J42 at h
  refine r_iconst (v := (1 : Int32)) dX6_depth_42 (by decide) ?_
  refine r_goto (tgt := 47) dX6_depth_43 (by decide) ?_
  exact T_X6_depth_J47 hl v0 v1 v2 v3 s0 (1 : Int32) S h

def F_X6_depth (v0 : Nat) (v1 : Int32) (v2 : Int32) (v3 : Int32) (S : Mem) : Option Mem :=
    (pgI 6 3 S v0).bind fun t11 =>
    if t11 = 0 then
      F_X6_depth_J42 v0 v1 v2 v3 v0 S
    else
      (pk 6 S v0).bind fun _ =>
      bd2 (F_X6_get v0 (24 : Int32) (1 : Int32) S) fun t14 S15 =>
      bd2 (F_X6_out v1 t14 S15) fun t16 S17 =>
      if t16 = 0 then
        bd2 (F_X6_out v2 (10000 : Int32) S17) fun t19 S20 =>
        if t19 = 0 then
          bd2 (F_X6_out v3 (8001 : Int32) S20) fun t22 S23 =>
          if t22 = 0 then
            F_X6_depth_J47 v0 v1 v2 v3 v0 (0 : Int32) S23
          else
            F_X6_depth_J42 v0 v1 v2 v3 v0 S23
        else
          F_X6_depth_J42 v0 v1 v2 v3 v0 S20
      else
        F_X6_depth_J42 v0 v1 v2 v3 v0 S17
set_option maxRecDepth 100000 in
theorem T_X6_depth {g : GG} {l : Launch} (hl : l.stackTraces = false) {v0 : Nat} {v1 : Int32} {v2 : Int32} {v3 : Int32} {S S' : Mem} (h : F_X6_depth v0 v1 v2 v3 S = some S') : Call g l uX6_depth [.ref v0, .int v1, .int v2, .int v3] S cvV S' := by
  refine call_of (by decide +kernel) hl rfl (Nat.le_of_ble_eq_true rfl) ?_
  show Run g l uX6_depth _ 0 [(0, .ref v0), (1, .int v1), (2, .int v2), (3, .int v3)] [] 0 0 S
  unfold F_X6_depth at h
  refine r_aload_n dX6_depth_0 rfl 0 rfl ?_
  refine r_aload_n dX6_depth_1 rfl 0 rfl ?_
  obtain ⟨t11, h0, h⟩ := bd h
  refine q_getI h0 dX6_depth_2 fl6_40 rfl ?_
  refine r_if_eq (tgt := 42) dX6_depth_5 (by decide) (fun c12 => ?_) (fun c12 => ?_)
  · rw [if_pos c12] at h
    exact T_X6_depth_J42 hl v0 v1 v2 v3 v0 S h
  · rw [if_neg c12] at h
    refine r_iload_n dX6_depth_8 rfl 1 rfl ?_
    refine r_aload_n dX6_depth_9 rfl 0 rfl ?_
    refine r_bipush (v := (24 : Int32)) dX6_depth_10 (by decide) ?_
    refine r_iconst (v := (1 : Int32)) dX6_depth_12 (by decide) ?_
    obtain ⟨z13, hk, h⟩ := bd h
    obtain ⟨t14, S15, h0, h⟩ := bd2_s h
    refine r_invV (As := [.int ((24 : Int32)), .int ((1 : Int32))]) (st := [.int v1, .ref v0]) dX6_depth_13 lv6_33 (by unfold RM; decide) (Nat.le_of_ble_eq_true rfl) rfl rfl (pk_ok hk) (T_X6_get hl h0) ?_
    obtain ⟨t16, S17, h0, h⟩ := bd2_s h
    refine r_invS (As := [.int v1, .int t14]) (st := [.ref v0]) dX6_depth_16 ls6_67 (by unfold RM; decide) (Nat.le_of_ble_eq_true rfl) rfl rfl (T_X6_out hl h0) ?_
    refine r_if_ne (tgt := 42) dX6_depth_19 (by decide) (fun c18 => ?_) (fun c18 => ?_)
    · rw [if_neg c18] at h
      exact T_X6_depth_J42 hl v0 v1 v2 v3 v0 S17 h
    · rw [if_pos c18] at h
      refine r_iload_n dX6_depth_22 rfl 2 rfl ?_
      refine r_sipush (v := (10000 : Int32)) dX6_depth_23 (by decide) ?_
      obtain ⟨t19, S20, h0, h⟩ := bd2_s h
      refine r_invS (As := [.int v2, .int ((10000 : Int32))]) (st := [.ref v0]) dX6_depth_26 ls6_67 (by unfold RM; decide) (Nat.le_of_ble_eq_true rfl) rfl rfl (T_X6_out hl h0) ?_
      refine r_if_ne (tgt := 42) dX6_depth_29 (by decide) (fun c21 => ?_) (fun c21 => ?_)
      · rw [if_neg c21] at h
        exact T_X6_depth_J42 hl v0 v1 v2 v3 v0 S20 h
      · rw [if_pos c21] at h
        refine r_iload_n dX6_depth_32 rfl 3 rfl ?_
        refine r_sipush (v := (8001 : Int32)) dX6_depth_33 (by decide) ?_
        obtain ⟨t22, S23, h0, h⟩ := bd2_s h
        refine r_invS (As := [.int v3, .int ((8001 : Int32))]) (st := [.ref v0]) dX6_depth_36 ls6_67 (by unfold RM; decide) (Nat.le_of_ble_eq_true rfl) rfl rfl (T_X6_out hl h0) ?_
        refine r_if_eq (tgt := 46) dX6_depth_39 (by decide) (fun c24 => ?_) (fun c24 => ?_)
        · rw [if_pos c24] at h
          refine r_iconst (v := (0 : Int32)) dX6_depth_46 (by decide) ?_
          exact T_X6_depth_J47 hl v0 v1 v2 v3 v0 (0 : Int32) S23 h
        · rw [if_neg c24] at h
          exact T_X6_depth_J42 hl v0 v1 v2 v3 v0 S23 h

def F_X6_genotype_J113 (s0 : Nat) (s1 : Int32) (s2 : Int32) (s3 : Int32) (S : Mem) : Option Mem :=
    (pk 6 S s0).bind fun _ =>
    (F_X6_put s0 s1 s2 s3 S).bind fun S3 =>
    some S3
set_option maxRecDepth 100000 in
theorem T_X6_genotype_J113 {g : GG} {l : Launch} (hl : l.stackTraces = false) {S' : Mem}  : ∀ (s0 : Nat) (s1 : Int32) (s2 : Int32) (s3 : Int32) (S : Mem), F_X6_genotype_J113 s0 s1 s2 s3 S = some S' → Run g l uX6_genotype (fin g uX6_genotype cvV S') 113 [] [.int s3, .int s2, .int s1, .ref s0] 0 0 S := by
  intro s0 s1 s2 s3 S h
  unfold F_X6_genotype_J113 at h
  obtain ⟨z1, hk, h⟩ := bd h
  obtain ⟨S3, h0, h⟩ := bd h
  refine r_invV (As := [.int s1, .int s2, .int s3]) (st := []) dX6_genotype_113 lv6_29 (by unfold RM; decide) (Nat.le_of_ble_eq_true rfl) rfl rfl (pk_ok hk) (T_X6_put hl h0) ?_
  cases h
  exact r_return dX6_genotype_116 rfl (by decide) (by decide)

def F_X6_genotype_J56 (v0 : Nat) (v1 : Int32) (v2 : Int32) (v3 : Int32) (v4 : Int32) (s0 : Nat) (s1 : Int32) (S : Mem) : Option Mem :=
    (pk 6 S s0).bind fun _ =>
    bd2 (F_X6_throwing s0 s1 (0 : Int32) S) fun t5 S6 =>
    if t5 = 0 then
      (pk 6 S6 v0).bind fun _ =>
      (F_X6_put v0 (24 : Int32) ((15 : Int32) + ((3 : Int32) * v1)) v2 S6).bind fun S10 =>
      (pk 6 S10 v0).bind fun _ =>
      (F_X6_put v0 (24 : Int32) (((15 : Int32) + ((3 : Int32) * v1)) + (1 : Int32)) v3 S10).bind fun S13 =>
      if v4 = 0 then
        F_X6_genotype_J113 v0 (24 : Int32) (((15 : Int32) + ((3 : Int32) * v1)) + (2 : Int32)) (0 : Int32) S13
      else
        F_X6_genotype_J113 v0 (24 : Int32) (((15 : Int32) + ((3 : Int32) * v1)) + (2 : Int32)) (1 : Int32) S13
    else
      some S6
set_option maxRecDepth 100000 in
theorem T_X6_genotype_J56 {g : GG} {l : Launch} (hl : l.stackTraces = false) {S' : Mem}  : ∀ (v0 : Nat) (v1 : Int32) (v2 : Int32) (v3 : Int32) (v4 : Int32) (s0 : Nat) (s1 : Int32) (S : Mem), F_X6_genotype_J56 v0 v1 v2 v3 v4 s0 s1 S = some S' → Run g l uX6_genotype (fin g uX6_genotype cvV S') 56 [(0, .ref v0), (1, .int v1), (2, .int v2), (3, .int v3), (4, .int v4)] [.int s1, .ref s0] 0 0 S := by
  intro v0 v1 v2 v3 v4 s0 s1 S h
  unfold F_X6_genotype_J56 at h
  refine r_iconst (v := (0 : Int32)) dX6_genotype_56 (by decide) ?_
  obtain ⟨z4, hk, h⟩ := bd h
  obtain ⟨t5, S6, h0, h⟩ := bd2_s h
  refine r_invV (As := [.int s1, .int ((0 : Int32))]) (st := []) dX6_genotype_57 lv6_47 (by unfold RM; decide) (Nat.le_of_ble_eq_true rfl) rfl rfl (pk_ok hk) (T_X6_throwing hl h0) ?_
  refine r_if_eq (tgt := 64) dX6_genotype_60 (by decide) (fun c7 => ?_) (fun c7 => ?_)
  · rw [if_pos c7] at h
    refine r_aload_n dX6_genotype_64 rfl 0 rfl ?_
    refine r_bipush (v := (24 : Int32)) dX6_genotype_65 (by decide) ?_
    refine r_bipush (v := (15 : Int32)) dX6_genotype_67 (by decide) ?_
    refine r_iconst (v := (3 : Int32)) dX6_genotype_69 (by decide) ?_
    refine r_iload_n dX6_genotype_70 rfl 1 rfl ?_
    refine r_imul dX6_genotype_71 ?_
    refine r_iadd dX6_genotype_72 ?_
    refine r_iload_n dX6_genotype_73 rfl 2 rfl ?_
    obtain ⟨z8, hk, h⟩ := bd h
    obtain ⟨S10, h0, h⟩ := bd h
    refine r_invV (As := [.int ((24 : Int32)), .int ((15 : Int32) + ((3 : Int32) * v1)), .int v2]) (st := []) dX6_genotype_74 lv6_29 (by unfold RM; decide) (Nat.le_of_ble_eq_true rfl) rfl rfl (pk_ok hk) (T_X6_put hl h0) ?_
    refine r_aload_n dX6_genotype_77 rfl 0 rfl ?_
    refine r_bipush (v := (24 : Int32)) dX6_genotype_78 (by decide) ?_
    refine r_bipush (v := (15 : Int32)) dX6_genotype_80 (by decide) ?_
    refine r_iconst (v := (3 : Int32)) dX6_genotype_82 (by decide) ?_
    refine r_iload_n dX6_genotype_83 rfl 1 rfl ?_
    refine r_imul dX6_genotype_84 ?_
    refine r_iadd dX6_genotype_85 ?_
    refine r_iconst (v := (1 : Int32)) dX6_genotype_86 (by decide) ?_
    refine r_iadd dX6_genotype_87 ?_
    refine r_iload_n dX6_genotype_88 rfl 3 rfl ?_
    obtain ⟨z11, hk, h⟩ := bd h
    obtain ⟨S13, h0, h⟩ := bd h
    refine r_invV (As := [.int ((24 : Int32)), .int (((15 : Int32) + ((3 : Int32) * v1)) + (1 : Int32)), .int v3]) (st := []) dX6_genotype_89 lv6_29 (by unfold RM; decide) (Nat.le_of_ble_eq_true rfl) rfl rfl (pk_ok hk) (T_X6_put hl h0) ?_
    refine r_aload_n dX6_genotype_92 rfl 0 rfl ?_
    refine r_bipush (v := (24 : Int32)) dX6_genotype_93 (by decide) ?_
    refine r_bipush (v := (15 : Int32)) dX6_genotype_95 (by decide) ?_
    refine r_iconst (v := (3 : Int32)) dX6_genotype_97 (by decide) ?_
    refine r_iload_n dX6_genotype_98 rfl 1 rfl ?_
    refine r_imul dX6_genotype_99 ?_
    refine r_iadd dX6_genotype_100 ?_
    refine r_iconst (v := (2 : Int32)) dX6_genotype_101 (by decide) ?_
    refine r_iadd dX6_genotype_102 ?_
    refine r_iload dX6_genotype_103 4 rfl ?_
    refine r_if_eq (tgt := 112) dX6_genotype_105 (by decide) (fun c14 => ?_) (fun c14 => ?_)
    · rw [if_pos c14] at h
      refine r_iconst (v := (0 : Int32)) dX6_genotype_112 (by decide) ?_
      refine r_sub [] rfl ?_
      exact T_X6_genotype_J113 hl v0 (24 : Int32) (((15 : Int32) + ((3 : Int32) * v1)) + (2 : Int32)) (0 : Int32) S13 h
    · rw [if_neg c14] at h
      refine r_iconst (v := (1 : Int32)) dX6_genotype_108 (by decide) ?_
      refine r_goto (tgt := 113) dX6_genotype_109 (by decide) ?_
      refine r_sub [] rfl ?_
      exact T_X6_genotype_J113 hl v0 (24 : Int32) (((15 : Int32) + ((3 : Int32) * v1)) + (2 : Int32)) (1 : Int32) S13 h
  · rw [if_neg c7] at h
    cases h
    exact r_return dX6_genotype_63 rfl (by decide) (by decide)

def F_X6_genotype_J51 (v0 : Nat) (v1 : Int32) (v2 : Int32) (v3 : Int32) (v4 : Int32) (s0 : Nat) (S : Mem) : Option Mem :=
    F_X6_genotype_J56 v0 v1 v2 v3 v4 s0 (1 : Int32) S
set_option maxRecDepth 100000 in
theorem T_X6_genotype_J51 {g : GG} {l : Launch} (hl : l.stackTraces = false) {S' : Mem}  : ∀ (v0 : Nat) (v1 : Int32) (v2 : Int32) (v3 : Int32) (v4 : Int32) (s0 : Nat) (S : Mem), F_X6_genotype_J51 v0 v1 v2 v3 v4 s0 S = some S' → Run g l uX6_genotype (fin g uX6_genotype cvV S') 51 [(0, .ref v0), (1, .int v1), (2, .int v2), (3, .int v3), (4, .int v4)] [.ref s0] 0 0 S := by
  intro v0 v1 v2 v3 v4 s0 S h
  unfold F_X6_genotype_J51 at h
  refine r_iconst (v := (1 : Int32)) dX6_genotype_51 (by decide) ?_
  refine r_goto (tgt := 56) dX6_genotype_52 (by decide) ?_
  exact T_X6_genotype_J56 hl v0 v1 v2 v3 v4 s0 (1 : Int32) S h

def F_X6_genotype (v0 : Nat) (v1 : Int32) (v2 : Int32) (v3 : Int32) (v4 : Int32) (S : Mem) : Option Mem :=
    (pk 6 S v0).bind fun _ =>
    bd2 (F_X6_get v0 (24 : Int32) (1 : Int32) S) fun t16 S17 =>
    (pgI 6 3 S17 v0).bind fun t18 =>
    if t18 = 0 then
      F_X6_genotype_J51 v0 v1 v2 v3 v4 v0 S17
    else
      bd2 (F_X6_out v1 (2 : Int32) S17) fun t20 S21 =>
      if t20 = 0 then
        bd2 (F_X6_out (v2 + (1 : Int32)) (t16 + (1 : Int32)) S21) fun t23 S24 =>
        if t23 = 0 then
          bd2 (F_X6_out (v3 + (1 : Int32)) (t16 + (1 : Int32)) S24) fun t26 S27 =>
          if t26 = 0 then
            F_X6_genotype_J56 v0 v1 v2 v3 v4 v0 (0 : Int32) S27
          else
            F_X6_genotype_J51 v0 v1 v2 v3 v4 v0 S27
        else
          F_X6_genotype_J51 v0 v1 v2 v3 v4 v0 S24
      else
        F_X6_genotype_J51 v0 v1 v2 v3 v4 v0 S21
set_option maxRecDepth 100000 in
theorem T_X6_genotype {g : GG} {l : Launch} (hl : l.stackTraces = false) {v0 : Nat} {v1 : Int32} {v2 : Int32} {v3 : Int32} {v4 : Int32} {S S' : Mem} (h : F_X6_genotype v0 v1 v2 v3 v4 S = some S') : Call g l uX6_genotype [.ref v0, .int v1, .int v2, .int v3, .int v4] S cvV S' := by
  refine call_of (by decide +kernel) hl rfl (Nat.le_of_ble_eq_true rfl) ?_
  show Run g l uX6_genotype _ 0 [(0, .ref v0), (1, .int v1), (2, .int v2), (3, .int v3), (4, .int v4)] [] 0 0 S
  unfold F_X6_genotype at h
  refine r_aload_n dX6_genotype_0 rfl 0 rfl ?_
  refine r_bipush (v := (24 : Int32)) dX6_genotype_1 (by decide) ?_
  refine r_iconst (v := (1 : Int32)) dX6_genotype_3 (by decide) ?_
  obtain ⟨z15, hk, h⟩ := bd h
  obtain ⟨t16, S17, h0, h⟩ := bd2_s h
  refine r_invV (As := [.int ((24 : Int32)), .int ((1 : Int32))]) (st := []) dX6_genotype_4 lv6_33 (by unfold RM; decide) (Nat.le_of_ble_eq_true rfl) rfl rfl (pk_ok hk) (T_X6_get hl h0) ?_
  refine r_istore (lv' := [(5, .int t16), (0, .ref v0), (1, .int v1), (2, .int v2), (3, .int v3), (4, .int v4)]) dX6_genotype_7 (by decide) rfl ?_
  refine r_aload_n dX6_genotype_9 rfl 1 rfl ?_
  refine r_aload_n dX6_genotype_10 rfl 1 rfl ?_
  obtain ⟨t18, h0, h⟩ := bd h
  refine q_getI h0 dX6_genotype_11 fl6_40 rfl ?_
  refine r_if_eq (tgt := 51) dX6_genotype_14 (by decide) (fun c19 => ?_) (fun c19 => ?_)
  · rw [if_pos c19] at h
    refine r_sub [1, 2, 3, 4, 5] rfl ?_
    exact T_X6_genotype_J51 hl v0 v1 v2 v3 v4 v0 S17 h
  · rw [if_neg c19] at h
    refine r_iload_n dX6_genotype_17 rfl 2 rfl ?_
    refine r_iconst (v := (2 : Int32)) dX6_genotype_18 (by decide) ?_
    obtain ⟨t20, S21, h0, h⟩ := bd2_s h
    refine r_invS (As := [.int v1, .int ((2 : Int32))]) (st := [.ref v0]) dX6_genotype_19 ls6_67 (by unfold RM; decide) (Nat.le_of_ble_eq_true rfl) rfl rfl (T_X6_out hl h0) ?_
    refine r_if_ne (tgt := 51) dX6_genotype_22 (by decide) (fun c22 => ?_) (fun c22 => ?_)
    · rw [if_neg c22] at h
      refine r_sub [1, 2, 3, 4, 5] rfl ?_
      exact T_X6_genotype_J51 hl v0 v1 v2 v3 v4 v0 S21 h
    · rw [if_pos c22] at h
      refine r_iload_n dX6_genotype_25 rfl 3 rfl ?_
      refine r_iconst (v := (1 : Int32)) dX6_genotype_26 (by decide) ?_
      refine r_iadd dX6_genotype_27 ?_
      refine r_iload dX6_genotype_28 0 rfl ?_
      refine r_iconst (v := (1 : Int32)) dX6_genotype_30 (by decide) ?_
      refine r_iadd dX6_genotype_31 ?_
      obtain ⟨t23, S24, h0, h⟩ := bd2_s h
      refine r_invS (As := [.int (v2 + (1 : Int32)), .int (t16 + (1 : Int32))]) (st := [.ref v0]) dX6_genotype_32 ls6_67 (by unfold RM; decide) (Nat.le_of_ble_eq_true rfl) rfl rfl (T_X6_out hl h0) ?_
      refine r_if_ne (tgt := 51) dX6_genotype_35 (by decide) (fun c25 => ?_) (fun c25 => ?_)
      · rw [if_neg c25] at h
        refine r_sub [1, 2, 3, 4, 5] rfl ?_
        exact T_X6_genotype_J51 hl v0 v1 v2 v3 v4 v0 S24 h
      · rw [if_pos c25] at h
        refine r_iload_n dX6_genotype_38 rfl 4 rfl ?_
        refine r_iconst (v := (1 : Int32)) dX6_genotype_39 (by decide) ?_
        refine r_iadd dX6_genotype_40 ?_
        refine r_iload dX6_genotype_41 0 rfl ?_
        refine r_iconst (v := (1 : Int32)) dX6_genotype_43 (by decide) ?_
        refine r_iadd dX6_genotype_44 ?_
        obtain ⟨t26, S27, h0, h⟩ := bd2_s h
        refine r_invS (As := [.int (v3 + (1 : Int32)), .int (t16 + (1 : Int32))]) (st := [.ref v0]) dX6_genotype_45 ls6_67 (by unfold RM; decide) (Nat.le_of_ble_eq_true rfl) rfl rfl (T_X6_out hl h0) ?_
        refine r_if_eq (tgt := 55) dX6_genotype_48 (by decide) (fun c28 => ?_) (fun c28 => ?_)
        · rw [if_pos c28] at h
          refine r_iconst (v := (0 : Int32)) dX6_genotype_55 (by decide) ?_
          refine r_sub [1, 2, 3, 4, 5] rfl ?_
          exact T_X6_genotype_J56 hl v0 v1 v2 v3 v4 v0 (0 : Int32) S27 h
        · rw [if_neg c28] at h
          refine r_sub [1, 2, 3, 4, 5] rfl ?_
          exact T_X6_genotype_J51 hl v0 v1 v2 v3 v4 v0 S27 h

def F_X6_likelihood_J48 (v0 : Nat) (v1 : Int32) (v2 : Int32) (v3 : Int32) (s0 : Nat) (s1 : Int32) (S : Mem) : Option Mem :=
    (pk 6 S s0).bind fun _ =>
    bd2 (F_X6_throwing s0 s1 (0 : Int32) S) fun t2 S3 =>
    if t2 = 0 then
      (pk 6 S3 v0).bind fun _ =>
      (F_X6_put v0 (24 : Int32) (((21 : Int32) + ((10 : Int32) * v1)) + v2) v3 S3).bind fun S7 =>
      some S7
    else
      some S3
set_option maxRecDepth 100000 in
theorem T_X6_likelihood_J48 {g : GG} {l : Launch} (hl : l.stackTraces = false) {S' : Mem}  : ∀ (v0 : Nat) (v1 : Int32) (v2 : Int32) (v3 : Int32) (s0 : Nat) (s1 : Int32) (S : Mem), F_X6_likelihood_J48 v0 v1 v2 v3 s0 s1 S = some S' → Run g l uX6_likelihood (fin g uX6_likelihood cvV S') 48 [(0, .ref v0), (1, .int v1), (2, .int v2), (3, .int v3)] [.int s1, .ref s0] 0 0 S := by
  intro v0 v1 v2 v3 s0 s1 S h
  unfold F_X6_likelihood_J48 at h
  refine r_iconst (v := (0 : Int32)) dX6_likelihood_48 (by decide) ?_
  obtain ⟨z1, hk, h⟩ := bd h
  obtain ⟨t2, S3, h0, h⟩ := bd2_s h
  refine r_invV (As := [.int s1, .int ((0 : Int32))]) (st := []) dX6_likelihood_49 lv6_47 (by unfold RM; decide) (Nat.le_of_ble_eq_true rfl) rfl rfl (pk_ok hk) (T_X6_throwing hl h0) ?_
  refine r_if_eq (tgt := 56) dX6_likelihood_52 (by decide) (fun c4 => ?_) (fun c4 => ?_)
  · rw [if_pos c4] at h
    refine r_aload_n dX6_likelihood_56 rfl 0 rfl ?_
    refine r_bipush (v := (24 : Int32)) dX6_likelihood_57 (by decide) ?_
    refine r_bipush (v := (21 : Int32)) dX6_likelihood_59 (by decide) ?_
    refine r_bipush (v := (10 : Int32)) dX6_likelihood_61 (by decide) ?_
    refine r_iload_n dX6_likelihood_63 rfl 1 rfl ?_
    refine r_imul dX6_likelihood_64 ?_
    refine r_iadd dX6_likelihood_65 ?_
    refine r_iload_n dX6_likelihood_66 rfl 2 rfl ?_
    refine r_iadd dX6_likelihood_67 ?_
    refine r_iload_n dX6_likelihood_68 rfl 3 rfl ?_
    obtain ⟨z5, hk, h⟩ := bd h
    obtain ⟨S7, h0, h⟩ := bd h
    refine r_invV (As := [.int ((24 : Int32)), .int (((21 : Int32) + ((10 : Int32) * v1)) + v2), .int v3]) (st := []) dX6_likelihood_69 lv6_29 (by unfold RM; decide) (Nat.le_of_ble_eq_true rfl) rfl rfl (pk_ok hk) (T_X6_put hl h0) ?_
    cases h
    exact r_return dX6_likelihood_72 rfl (by decide) (by decide)
  · rw [if_neg c4] at h
    cases h
    exact r_return dX6_likelihood_55 rfl (by decide) (by decide)

def F_X6_likelihood_J43 (v0 : Nat) (v1 : Int32) (v2 : Int32) (v3 : Int32) (s0 : Nat) (S : Mem) : Option Mem :=
    F_X6_likelihood_J48 v0 v1 v2 v3 s0 (1 : Int32) S
set_option maxRecDepth 100000 in
theorem T_X6_likelihood_J43 {g : GG} {l : Launch} (hl : l.stackTraces = false) {S' : Mem}  : ∀ (v0 : Nat) (v1 : Int32) (v2 : Int32) (v3 : Int32) (s0 : Nat) (S : Mem), F_X6_likelihood_J43 v0 v1 v2 v3 s0 S = some S' → Run g l uX6_likelihood (fin g uX6_likelihood cvV S') 43 [(0, .ref v0), (1, .int v1), (2, .int v2), (3, .int v3)] [.ref s0] 0 0 S := by
  intro v0 v1 v2 v3 s0 S h
  unfold F_X6_likelihood_J43 at h
  refine r_iconst (v := (1 : Int32)) dX6_likelihood_43 (by decide) ?_
  refine r_goto (tgt := 48) dX6_likelihood_44 (by decide) ?_
  exact T_X6_likelihood_J48 hl v0 v1 v2 v3 s0 (1 : Int32) S h

def F_X6_likelihood (v0 : Nat) (v1 : Int32) (v2 : Int32) (v3 : Int32) (S : Mem) : Option Mem :=
    (pgI 6 3 S v0).bind fun t8 =>
    if t8 = 0 then
      F_X6_likelihood_J43 v0 v1 v2 v3 v0 S
    else
      bd2 (F_X6_out v1 (2 : Int32) S) fun t10 S11 =>
      if t10 = 0 then
        (pk 6 S11 v0).bind fun _ =>
        bd2 (F_X6_get v0 (24 : Int32) (1 : Int32) S11) fun t14 S15 =>
        bd2 (F_X6_pairs t14 S15) fun t16 S17 =>
        bd2 (F_X6_out v2 t16 S17) fun t18 S19 =>
        if t18 = 0 then
          bd2 (F_X6_out v3 (1000 : Int32) S19) fun t21 S22 =>
          if t21 = 0 then
            F_X6_likelihood_J48 v0 v1 v2 v3 v0 (0 : Int32) S22
          else
            F_X6_likelihood_J43 v0 v1 v2 v3 v0 S22
        else
          F_X6_likelihood_J43 v0 v1 v2 v3 v0 S19
      else
        F_X6_likelihood_J43 v0 v1 v2 v3 v0 S11
set_option maxRecDepth 100000 in
theorem T_X6_likelihood {g : GG} {l : Launch} (hl : l.stackTraces = false) {v0 : Nat} {v1 : Int32} {v2 : Int32} {v3 : Int32} {S S' : Mem} (h : F_X6_likelihood v0 v1 v2 v3 S = some S') : Call g l uX6_likelihood [.ref v0, .int v1, .int v2, .int v3] S cvV S' := by
  refine call_of (by decide +kernel) hl rfl (Nat.le_of_ble_eq_true rfl) ?_
  show Run g l uX6_likelihood _ 0 [(0, .ref v0), (1, .int v1), (2, .int v2), (3, .int v3)] [] 0 0 S
  unfold F_X6_likelihood at h
  refine r_aload_n dX6_likelihood_0 rfl 0 rfl ?_
  refine r_aload_n dX6_likelihood_1 rfl 0 rfl ?_
  obtain ⟨t8, h0, h⟩ := bd h
  refine q_getI h0 dX6_likelihood_2 fl6_40 rfl ?_
  refine r_if_eq (tgt := 43) dX6_likelihood_5 (by decide) (fun c9 => ?_) (fun c9 => ?_)
  · rw [if_pos c9] at h
    exact T_X6_likelihood_J43 hl v0 v1 v2 v3 v0 S h
  · rw [if_neg c9] at h
    refine r_iload_n dX6_likelihood_8 rfl 1 rfl ?_
    refine r_iconst (v := (2 : Int32)) dX6_likelihood_9 (by decide) ?_
    obtain ⟨t10, S11, h0, h⟩ := bd2_s h
    refine r_invS (As := [.int v1, .int ((2 : Int32))]) (st := [.ref v0]) dX6_likelihood_10 ls6_67 (by unfold RM; decide) (Nat.le_of_ble_eq_true rfl) rfl rfl (T_X6_out hl h0) ?_
    refine r_if_ne (tgt := 43) dX6_likelihood_13 (by decide) (fun c12 => ?_) (fun c12 => ?_)
    · rw [if_neg c12] at h
      exact T_X6_likelihood_J43 hl v0 v1 v2 v3 v0 S11 h
    · rw [if_pos c12] at h
      refine r_iload_n dX6_likelihood_16 rfl 2 rfl ?_
      refine r_aload_n dX6_likelihood_17 rfl 0 rfl ?_
      refine r_bipush (v := (24 : Int32)) dX6_likelihood_18 (by decide) ?_
      refine r_iconst (v := (1 : Int32)) dX6_likelihood_20 (by decide) ?_
      obtain ⟨z13, hk, h⟩ := bd h
      obtain ⟨t14, S15, h0, h⟩ := bd2_s h
      refine r_invV (As := [.int ((24 : Int32)), .int ((1 : Int32))]) (st := [.int v2, .ref v0]) dX6_likelihood_21 lv6_33 (by unfold RM; decide) (Nat.le_of_ble_eq_true rfl) rfl rfl (pk_ok hk) (T_X6_get hl h0) ?_
      obtain ⟨t16, S17, h0, h⟩ := bd2_s h
      refine r_invS (As := [.int t14]) (st := [.int v2, .ref v0]) dX6_likelihood_24 ls6_70 (by unfold RM; decide) (Nat.le_of_ble_eq_true rfl) rfl rfl (T_X6_pairs hl h0) ?_
      obtain ⟨t18, S19, h0, h⟩ := bd2_s h
      refine r_invS (As := [.int v2, .int t16]) (st := [.ref v0]) dX6_likelihood_27 ls6_67 (by unfold RM; decide) (Nat.le_of_ble_eq_true rfl) rfl rfl (T_X6_out hl h0) ?_
      refine r_if_ne (tgt := 43) dX6_likelihood_30 (by decide) (fun c20 => ?_) (fun c20 => ?_)
      · rw [if_neg c20] at h
        exact T_X6_likelihood_J43 hl v0 v1 v2 v3 v0 S19 h
      · rw [if_pos c20] at h
        refine r_iload_n dX6_likelihood_33 rfl 3 rfl ?_
        refine r_sipush (v := (1000 : Int32)) dX6_likelihood_34 (by decide) ?_
        obtain ⟨t21, S22, h0, h⟩ := bd2_s h
        refine r_invS (As := [.int v3, .int ((1000 : Int32))]) (st := [.ref v0]) dX6_likelihood_37 ls6_67 (by unfold RM; decide) (Nat.le_of_ble_eq_true rfl) rfl rfl (T_X6_out hl h0) ?_
        refine r_if_eq (tgt := 47) dX6_likelihood_40 (by decide) (fun c23 => ?_) (fun c23 => ?_)
        · rw [if_pos c23] at h
          refine r_iconst (v := (0 : Int32)) dX6_likelihood_47 (by decide) ?_
          exact T_X6_likelihood_J48 hl v0 v1 v2 v3 v0 (0 : Int32) S22 h
        · rw [if_neg c23] at h
          exact T_X6_likelihood_J43 hl v0 v1 v2 v3 v0 S22 h

def F_X6_open_L5 : Nat → Nat → Int32 → Int32 → Mem → Option Mem
  | 0, _, _, _, _ => none
  | fu + 1, v0, v1, v2, S =>
    if v2 ≤ v1 then
      (pgI 6 4 S v0).bind fun t2 =>
      (ppI 6 4 S v0 (t2 + (1 : Int32))).bind fun S3 =>
      some S3
    else
      (pk 6 S v0).bind fun _ =>
      (F_X6_copy v0 (v2 - (1 : Int32)) v2 S).bind fun S6 =>
      F_X6_open_L5 fu v0 v1 (v2 + (-1)) S6
set_option maxRecDepth 100000 in
theorem T_X6_open_L5 {g : GG} {l : Launch} (hl : l.stackTraces = false) {S' : Mem}  : ∀ (fu : Nat) (v0 : Nat) (v1 : Int32) (v2 : Int32) (S : Mem), F_X6_open_L5 fu v0 v1 v2 S = some S' → Run g l uX6_open (fin g uX6_open cvV S') 5 [(0, .ref v0), (1, .int v1), (2, .int v2)] [] 0 0 S := by
  intro fu
  induction fu with
  | zero =>
    intro v0 v1 v2 S h
    cases (show none = some _ from h)
  | succ fu ih =>
    intro v0 v1 v2 S h
    unfold F_X6_open_L5 at h
    refine r_iload_n dX6_open_5 rfl 2 rfl ?_
    refine r_iload_n dX6_open_6 rfl 1 rfl ?_
    refine r_icmp_le (tgt := 24) dX6_open_7 (by decide) (fun c1 => ?_) (fun c1 => ?_)
    · rw [if_pos c1] at h
      refine r_aload_n dX6_open_24 rfl 0 rfl ?_
      refine r_dup dX6_open_25 rfl ?_
      obtain ⟨t2, h0, h⟩ := bd h
      refine q_getI h0 dX6_open_26 fl6_44 rfl ?_
      refine r_iconst (v := (1 : Int32)) dX6_open_29 (by decide) ?_
      refine r_iadd dX6_open_30 ?_
      obtain ⟨S3, h0, h⟩ := bd h
      refine q_putI h0 dX6_open_31 fl6_44 rfl ?_
      cases h
      exact r_return dX6_open_34 rfl (by decide) (by decide)
    · rw [if_neg c1] at h
      refine r_aload_n dX6_open_10 rfl 0 rfl ?_
      refine r_iload_n dX6_open_11 rfl 2 rfl ?_
      refine r_iconst (v := (1 : Int32)) dX6_open_12 (by decide) ?_
      refine r_isub dX6_open_13 ?_
      refine r_iload_n dX6_open_14 rfl 2 rfl ?_
      obtain ⟨z4, hk, h⟩ := bd h
      obtain ⟨S6, h0, h⟩ := bd h
      refine r_invV (As := [.int (v2 - (1 : Int32)), .int v2]) (st := []) dX6_open_15 lv6_81 (by unfold RM; decide) (Nat.le_of_ble_eq_true rfl) rfl rfl (pk_ok hk) (T_X6_copy hl h0) ?_
      refine r_iinc (v := v2 + (-1)) (lv' := [(2, .int (v2 + (-1))), (0, .ref v0), (1, .int v1)]) dX6_open_18 2 rfl rfl (by decide) rfl ?_
      refine r_goto (tgt := 5) dX6_open_21 (by decide) ?_
      refine r_sub [1, 2, 0] rfl ?_
      exact ih v0 v1 (v2 + (-1)) S6 h

def F_X6_open (v0 : Nat) (v1 : Int32) (S : Mem) : Option Mem :=
    (pgI 6 4 S v0).bind fun t7 =>
    F_X6_open_L5 FU v0 v1 t7 S
set_option maxRecDepth 100000 in
theorem T_X6_open {g : GG} {l : Launch} (hl : l.stackTraces = false) {v0 : Nat} {v1 : Int32} {S S' : Mem} (h : F_X6_open v0 v1 S = some S') : Call g l uX6_open [.ref v0, .int v1] S cvV S' := by
  refine call_of (by decide +kernel) hl rfl (Nat.le_of_ble_eq_true rfl) ?_
  show Run g l uX6_open _ 0 [(0, .ref v0), (1, .int v1)] [] 0 0 S
  unfold F_X6_open at h
  refine r_aload_n dX6_open_0 rfl 0 rfl ?_
  obtain ⟨t7, h0, h⟩ := bd h
  refine q_getI h0 dX6_open_1 fl6_44 rfl ?_
  refine r_istore_n (lv' := [(2, .int t7), (0, .ref v0), (1, .int v1)]) dX6_open_4 rfl (by decide) rfl ?_
  refine r_sub [1, 2, 0] rfl ?_
  exact T_X6_open_L5 hl FU v0 v1 t7 S h

def F_X6_enter_J31 (v0 : Nat) (v1 : Int32) (v2 : Int32) (S : Mem) : Option (Int32 × Mem) :=
    (pk 6 S v0).bind fun _ =>
    (F_X6_open v0 v2 S).bind fun S3 =>
    (pk 6 S3 v0).bind fun _ =>
    (F_X6_copy v0 v1 v2 S3).bind fun S6 =>
    some (v2, S6)
set_option maxRecDepth 100000 in
theorem T_X6_enter_J31 {g : GG} {l : Launch} (hl : l.stackTraces = false) {S' : Mem} {r : Int32}  : ∀ (v0 : Nat) (v1 : Int32) (v2 : Int32) (S : Mem), F_X6_enter_J31 v0 v1 v2 S = some (r, S') → Run g l uX6_enter (fin g uX6_enter (cvI r) S') 31 [(0, .ref v0), (1, .int v1), (2, .int v2)] [] 0 0 S := by
  intro v0 v1 v2 S h
  unfold F_X6_enter_J31 at h
  refine r_aload_n dX6_enter_31 rfl 0 rfl ?_
  refine r_iload_n dX6_enter_32 rfl 2 rfl ?_
  obtain ⟨z1, hk, h⟩ := bd h
  obtain ⟨S3, h0, h⟩ := bd h
  refine r_invV (As := [.int v2]) (st := []) dX6_enter_33 lv6_77 (by unfold RM; decide) (Nat.le_of_ble_eq_true rfl) rfl rfl (pk_ok hk) (T_X6_open hl h0) ?_
  refine r_aload_n dX6_enter_36 rfl 0 rfl ?_
  refine r_iload_n dX6_enter_37 rfl 1 rfl ?_
  refine r_iload_n dX6_enter_38 rfl 2 rfl ?_
  obtain ⟨z4, hk, h⟩ := bd h
  obtain ⟨S6, h0, h⟩ := bd h
  refine r_invV (As := [.int v1, .int v2]) (st := []) dX6_enter_39 lv6_81 (by unfold RM; decide) (Nat.le_of_ble_eq_true rfl) rfl rfl (pk_ok hk) (T_X6_copy hl h0) ?_
  refine r_iload_n dX6_enter_42 rfl 2 rfl ?_
  cases h
  exact r_ireturn dX6_enter_43 rfl rfl (by decide) (by decide)

def F_X6_enter_L2 : Nat → Nat → Int32 → Int32 → Mem → Option (Int32 × Mem)
  | 0, _, _, _, _ => none
  | fu + 1, v0, v1, v2, S =>
    (pgI 6 4 S v0).bind fun t7 =>
    if t7 ≤ v2 then
      F_X6_enter_J31 v0 v1 v2 S
    else
      (pk 6 S v0).bind fun _ =>
      bd2 (F_X6_get v0 v2 (0 : Int32) S) fun t10 S11 =>
      (pk 6 S11 v0).bind fun _ =>
      bd2 (F_X6_get v0 v1 (0 : Int32) S11) fun t13 S14 =>
      if t13 < t10 then
        F_X6_enter_J31 v0 v1 v2 S14
      else
        F_X6_enter_L2 fu v0 v1 (v2 + 1) S14
set_option maxRecDepth 100000 in
theorem T_X6_enter_L2 {g : GG} {l : Launch} (hl : l.stackTraces = false) {S' : Mem} {r : Int32}  : ∀ (fu : Nat) (v0 : Nat) (v1 : Int32) (v2 : Int32) (S : Mem), F_X6_enter_L2 fu v0 v1 v2 S = some (r, S') → Run g l uX6_enter (fin g uX6_enter (cvI r) S') 2 [(0, .ref v0), (1, .int v1), (2, .int v2)] [] 0 0 S := by
  intro fu
  induction fu with
  | zero =>
    intro v0 v1 v2 S h
    cases (show none = some _ from h)
  | succ fu ih =>
    intro v0 v1 v2 S h
    unfold F_X6_enter_L2 at h
    refine r_iload_n dX6_enter_2 rfl 2 rfl ?_
    refine r_aload_n dX6_enter_3 rfl 0 rfl ?_
    obtain ⟨t7, h0, h⟩ := bd h
    refine q_getI h0 dX6_enter_4 fl6_44 rfl ?_
    refine r_icmp_ge (tgt := 31) dX6_enter_7 (by decide) (fun c8 => ?_) (fun c8 => ?_)
    · rw [if_pos c8] at h
      exact T_X6_enter_J31 hl v0 v1 v2 S h
    · rw [if_neg c8] at h
      refine r_aload_n dX6_enter_10 rfl 0 rfl ?_
      refine r_iload_n dX6_enter_11 rfl 2 rfl ?_
      refine r_iconst (v := (0 : Int32)) dX6_enter_12 (by decide) ?_
      obtain ⟨z9, hk, h⟩ := bd h
      obtain ⟨t10, S11, h0, h⟩ := bd2_s h
      refine r_invV (As := [.int v2, .int ((0 : Int32))]) (st := []) dX6_enter_13 lv6_33 (by unfold RM; decide) (Nat.le_of_ble_eq_true rfl) rfl rfl (pk_ok hk) (T_X6_get hl h0) ?_
      refine r_aload_n dX6_enter_16 rfl 0 rfl ?_
      refine r_iload_n dX6_enter_17 rfl 1 rfl ?_
      refine r_iconst (v := (0 : Int32)) dX6_enter_18 (by decide) ?_
      obtain ⟨z12, hk, h⟩ := bd h
      obtain ⟨t13, S14, h0, h⟩ := bd2_s h
      refine r_invV (As := [.int v1, .int ((0 : Int32))]) (st := [.int t10]) dX6_enter_19 lv6_33 (by unfold RM; decide) (Nat.le_of_ble_eq_true rfl) rfl rfl (pk_ok hk) (T_X6_get hl h0) ?_
      refine r_icmp_gt (tgt := 31) dX6_enter_22 (by decide) (fun c15 => ?_) (fun c15 => ?_)
      · rw [if_pos c15] at h
        exact T_X6_enter_J31 hl v0 v1 v2 S14 h
      · rw [if_neg c15] at h
        refine r_iinc (v := v2 + 1) (lv' := [(2, .int (v2 + 1)), (0, .ref v0), (1, .int v1)]) dX6_enter_25 2 rfl rfl (by decide) rfl ?_
        refine r_goto (tgt := 2) dX6_enter_28 (by decide) ?_
        refine r_sub [1, 2, 0] rfl ?_
        exact ih v0 v1 (v2 + 1) S14 h

def F_X6_enter (v0 : Nat) (v1 : Int32) (S : Mem) : Option (Int32 × Mem) :=
    F_X6_enter_L2 FU v0 v1 (0 : Int32) S
set_option maxRecDepth 100000 in
theorem T_X6_enter {g : GG} {l : Launch} (hl : l.stackTraces = false) {v0 : Nat} {v1 : Int32} {S S' : Mem} {r : Int32} (h : F_X6_enter v0 v1 S = some (r, S')) : Call g l uX6_enter [.ref v0, .int v1] S (cvI r) S' := by
  refine call_of (by decide +kernel) hl rfl (Nat.le_of_ble_eq_true rfl) ?_
  show Run g l uX6_enter _ 0 [(0, .ref v0), (1, .int v1)] [] 0 0 S
  unfold F_X6_enter at h
  refine r_iconst (v := (0 : Int32)) dX6_enter_0 (by decide) ?_
  refine r_istore_n (lv' := [(2, .int ((0 : Int32))), (0, .ref v0), (1, .int v1)]) dX6_enter_1 rfl (by decide) rfl ?_
  refine r_sub [1, 2, 0] rfl ?_
  exact T_X6_enter_L2 hl FU v0 v1 (0 : Int32) S h

def F_X6_add_J33 (v0 : Nat) (s0 : Nat) (s1 : Int32) (S : Mem) : Option (Int32 × Mem) :=
    (pk 6 S s0).bind fun _ =>
    bd2 (F_X6_throwing s0 s1 (0 : Int32) S) fun t2 S3 =>
    if t2 = 0 then
      (ppZ 6 3 S3 v0 (0 : Int32)).bind fun S5 =>
      (pk 6 S5 v0).bind fun _ =>
      bd2 (F_X6_enter v0 (24 : Int32) S5) fun t7 S8 =>
      some (t7, S8)
    else
      some ((0 : Int32), S3)
set_option maxRecDepth 100000 in
theorem T_X6_add_J33 {g : GG} {l : Launch} (hl : l.stackTraces = false) {S' : Mem} {r : Int32}  : ∀ (v0 : Nat) (s0 : Nat) (s1 : Int32) (S : Mem), F_X6_add_J33 v0 s0 s1 S = some (r, S') → Run g l uX6_add (fin g uX6_add (cvI r) S') 33 [(0, .ref v0)] [.int s1, .ref s0] 0 0 S := by
  intro v0 s0 s1 S h
  unfold F_X6_add_J33 at h
  refine r_iconst (v := (0 : Int32)) dX6_add_33 (by decide) ?_
  obtain ⟨z1, hk, h⟩ := bd h
  obtain ⟨t2, S3, h0, h⟩ := bd2_s h
  refine r_invV (As := [.int s1, .int ((0 : Int32))]) (st := []) dX6_add_34 lv6_47 (by unfold RM; decide) (Nat.le_of_ble_eq_true rfl) rfl rfl (pk_ok hk) (T_X6_throwing hl h0) ?_
  refine r_if_eq (tgt := 42) dX6_add_37 (by decide) (fun c4 => ?_) (fun c4 => ?_)
  · rw [if_pos c4] at h
    refine r_aload_n dX6_add_42 rfl 0 rfl ?_
    refine r_iconst (v := (0 : Int32)) dX6_add_43 (by decide) ?_
    obtain ⟨S5, h0, h⟩ := bd h
    refine q_putZ h0 dX6_add_44 fl6_40 rfl ?_
    refine r_aload_n dX6_add_47 rfl 0 rfl ?_
    refine r_bipush (v := (24 : Int32)) dX6_add_48 (by decide) ?_
    obtain ⟨z6, hk, h⟩ := bd h
    obtain ⟨t7, S8, h0, h⟩ := bd2_s h
    refine r_invV (As := [.int ((24 : Int32))]) (st := []) dX6_add_50 lv6_74 (by unfold RM; decide) (Nat.le_of_ble_eq_true rfl) rfl rfl (pk_ok hk) (T_X6_enter hl h0) ?_
    cases h
    exact r_ireturn dX6_add_53 rfl rfl (by decide) (by decide)
  · rw [if_neg c4] at h
    refine r_iconst (v := (0 : Int32)) dX6_add_40 (by decide) ?_
    cases h
    exact r_ireturn dX6_add_41 rfl rfl (by decide) (by decide)

def F_X6_add_J28 (v0 : Nat) (s0 : Nat) (S : Mem) : Option (Int32 × Mem) :=
    F_X6_add_J33 v0 s0 (1 : Int32) S
set_option maxRecDepth 100000 in
theorem T_X6_add_J28 {g : GG} {l : Launch} (hl : l.stackTraces = false) {S' : Mem} {r : Int32}  : ∀ (v0 : Nat) (s0 : Nat) (S : Mem), F_X6_add_J28 v0 s0 S = some (r, S') → Run g l uX6_add (fin g uX6_add (cvI r) S') 28 [(0, .ref v0)] [.ref s0] 0 0 S := by
  intro v0 s0 S h
  unfold F_X6_add_J28 at h
  refine r_iconst (v := (1 : Int32)) dX6_add_28 (by decide) ?_
  refine r_goto (tgt := 33) dX6_add_29 (by decide) ?_
  exact T_X6_add_J33 hl v0 s0 (1 : Int32) S h

def F_X6_add (v0 : Nat) (S : Mem) : Option (Int32 × Mem) :=
    (pgI 6 3 S v0).bind fun t9 =>
    if t9 = 0 then
      F_X6_add_J28 v0 v0 S
    else
      (pk 6 S v0).bind fun _ =>
      bd2 (F_X6_get v0 (24 : Int32) (1 : Int32) S) fun t12 S13 =>
      if t12 < (2 : Int32) then
        F_X6_add_J28 v0 v0 S13
      else
        (pgI 6 4 S13 v0).bind fun t15 =>
        if t15 = (24 : Int32) then
          F_X6_add_J28 v0 v0 S13
        else
          F_X6_add_J33 v0 v0 (0 : Int32) S13
set_option maxRecDepth 100000 in
theorem T_X6_add {g : GG} {l : Launch} (hl : l.stackTraces = false) {v0 : Nat} {S S' : Mem} {r : Int32} (h : F_X6_add v0 S = some (r, S')) : Call g l uX6_add [.ref v0] S (cvI r) S' := by
  refine call_of (by decide +kernel) hl rfl (Nat.le_of_ble_eq_true rfl) ?_
  show Run g l uX6_add _ 0 [(0, .ref v0)] [] 0 0 S
  unfold F_X6_add at h
  refine r_aload_n dX6_add_0 rfl 0 rfl ?_
  refine r_aload_n dX6_add_1 rfl 0 rfl ?_
  obtain ⟨t9, h0, h⟩ := bd h
  refine q_getI h0 dX6_add_2 fl6_40 rfl ?_
  refine r_if_eq (tgt := 28) dX6_add_5 (by decide) (fun c10 => ?_) (fun c10 => ?_)
  · rw [if_pos c10] at h
    exact T_X6_add_J28 hl v0 v0 S h
  · rw [if_neg c10] at h
    refine r_aload_n dX6_add_8 rfl 0 rfl ?_
    refine r_bipush (v := (24 : Int32)) dX6_add_9 (by decide) ?_
    refine r_iconst (v := (1 : Int32)) dX6_add_11 (by decide) ?_
    obtain ⟨z11, hk, h⟩ := bd h
    obtain ⟨t12, S13, h0, h⟩ := bd2_s h
    refine r_invV (As := [.int ((24 : Int32)), .int ((1 : Int32))]) (st := [.ref v0]) dX6_add_12 lv6_33 (by unfold RM; decide) (Nat.le_of_ble_eq_true rfl) rfl rfl (pk_ok hk) (T_X6_get hl h0) ?_
    refine r_iconst (v := (2 : Int32)) dX6_add_15 (by decide) ?_
    refine r_icmp_lt (tgt := 28) dX6_add_16 (by decide) (fun c14 => ?_) (fun c14 => ?_)
    · rw [if_pos c14] at h
      exact T_X6_add_J28 hl v0 v0 S13 h
    · rw [if_neg c14] at h
      refine r_aload_n dX6_add_19 rfl 0 rfl ?_
      obtain ⟨t15, h0, h⟩ := bd h
      refine q_getI h0 dX6_add_20 fl6_44 rfl ?_
      refine r_bipush (v := (24 : Int32)) dX6_add_23 (by decide) ?_
      refine r_icmp_ne (tgt := 32) dX6_add_25 (by decide) (fun c16 => ?_) (fun c16 => ?_)
      · rw [if_neg c16] at h
        refine r_iconst (v := (0 : Int32)) dX6_add_32 (by decide) ?_
        exact T_X6_add_J33 hl v0 v0 (0 : Int32) S13 h
      · rw [if_pos c16] at h
        exact T_X6_add_J28 hl v0 v0 S13 h

def F_X6_close_L12 : Nat → Nat → Int32 → Mem → Option Mem
  | 0, _, _, _ => none
  | fu + 1, v0, v2, S =>
    (pgI 6 4 S v0).bind fun t1 =>
    if t1 ≤ v2 then
      some S
    else
      (pk 6 S v0).bind fun _ =>
      (F_X6_copy v0 (v2 + (1 : Int32)) v2 S).bind fun S5 =>
      F_X6_close_L12 fu v0 (v2 + 1) S5
set_option maxRecDepth 100000 in
theorem T_X6_close_L12 {g : GG} {l : Launch} (hl : l.stackTraces = false) {S' : Mem}  : ∀ (fu : Nat) (v0 : Nat) (v2 : Int32) (S : Mem), F_X6_close_L12 fu v0 v2 S = some S' → Run g l uX6_close (fin g uX6_close cvV S') 12 [(0, .ref v0), (2, .int v2)] [] 0 0 S := by
  intro fu
  induction fu with
  | zero =>
    intro v0 v2 S h
    cases (show none = some _ from h)
  | succ fu ih =>
    intro v0 v2 S h
    unfold F_X6_close_L12 at h
    refine r_iload_n dX6_close_12 rfl 1 rfl ?_
    refine r_aload_n dX6_close_13 rfl 0 rfl ?_
    obtain ⟨t1, h0, h⟩ := bd h
    refine q_getI h0 dX6_close_14 fl6_44 rfl ?_
    refine r_icmp_ge (tgt := 34) dX6_close_17 (by decide) (fun c2 => ?_) (fun c2 => ?_)
    · rw [if_pos c2] at h
      cases h
      exact r_return dX6_close_34 rfl (by decide) (by decide)
    · rw [if_neg c2] at h
      refine r_aload_n dX6_close_20 rfl 0 rfl ?_
      refine r_iload_n dX6_close_21 rfl 1 rfl ?_
      refine r_iconst (v := (1 : Int32)) dX6_close_22 (by decide) ?_
      refine r_iadd dX6_close_23 ?_
      refine r_iload_n dX6_close_24 rfl 1 rfl ?_
      obtain ⟨z3, hk, h⟩ := bd h
      obtain ⟨S5, h0, h⟩ := bd h
      refine r_invV (As := [.int (v2 + (1 : Int32)), .int v2]) (st := []) dX6_close_25 lv6_81 (by unfold RM; decide) (Nat.le_of_ble_eq_true rfl) rfl rfl (pk_ok hk) (T_X6_copy hl h0) ?_
      refine r_iinc (v := v2 + 1) (lv' := [(2, .int (v2 + 1)), (0, .ref v0)]) dX6_close_28 1 rfl rfl (by decide) rfl ?_
      refine r_goto (tgt := 12) dX6_close_31 (by decide) ?_
      refine r_sub [1, 0] rfl ?_
      exact ih v0 (v2 + 1) S5 h

def F_X6_close (v0 : Nat) (v1 : Int32) (S : Mem) : Option Mem :=
    (pgI 6 4 S v0).bind fun t6 =>
    (ppI 6 4 S v0 (t6 - (1 : Int32))).bind fun S7 =>
    F_X6_close_L12 FU v0 v1 S7
set_option maxRecDepth 100000 in
theorem T_X6_close {g : GG} {l : Launch} (hl : l.stackTraces = false) {v0 : Nat} {v1 : Int32} {S S' : Mem} (h : F_X6_close v0 v1 S = some S') : Call g l uX6_close [.ref v0, .int v1] S cvV S' := by
  refine call_of (by decide +kernel) hl rfl (Nat.le_of_ble_eq_true rfl) ?_
  show Run g l uX6_close _ 0 [(0, .ref v0), (1, .int v1)] [] 0 0 S
  unfold F_X6_close at h
  refine r_aload_n dX6_close_0 rfl 0 rfl ?_
  refine r_dup dX6_close_1 rfl ?_
  obtain ⟨t6, h0, h⟩ := bd h
  refine q_getI h0 dX6_close_2 fl6_44 rfl ?_
  refine r_iconst (v := (1 : Int32)) dX6_close_5 (by decide) ?_
  refine r_isub dX6_close_6 ?_
  obtain ⟨S7, h0, h⟩ := bd h
  refine q_putI h0 dX6_close_7 fl6_44 rfl ?_
  refine r_iload_n dX6_close_10 rfl 1 rfl ?_
  refine r_istore_n (lv' := [(2, .int v1), (0, .ref v0), (1, .int v1)]) dX6_close_11 rfl (by decide) rfl ?_
  refine r_sub [1, 0] rfl ?_
  exact T_X6_close_L12 hl FU v0 v1 S7 h

def F_X6_remove (v0 : Nat) (v1 : Int32) (S : Mem) : Option Mem :=
    (pgI 6 4 S v0).bind fun t1 =>
    bd2 (F_X6_out v1 t1 S) fun t2 S3 =>
    (pk 6 S3 v0).bind fun _ =>
    bd2 (F_X6_throwing v0 t2 (0 : Int32) S3) fun t5 S6 =>
    if t5 = 0 then
      (pk 6 S6 v0).bind fun _ =>
      (F_X6_close v0 v1 S6).bind fun S10 =>
      some S10
    else
      some S6
set_option maxRecDepth 100000 in
theorem T_X6_remove {g : GG} {l : Launch} (hl : l.stackTraces = false) {v0 : Nat} {v1 : Int32} {S S' : Mem} (h : F_X6_remove v0 v1 S = some S') : Call g l uX6_remove [.ref v0, .int v1] S cvV S' := by
  refine call_of (by decide +kernel) hl rfl (Nat.le_of_ble_eq_true rfl) ?_
  show Run g l uX6_remove _ 0 [(0, .ref v0), (1, .int v1)] [] 0 0 S
  unfold F_X6_remove at h
  refine r_aload_n dX6_remove_0 rfl 0 rfl ?_
  refine r_iload_n dX6_remove_1 rfl 1 rfl ?_
  refine r_aload_n dX6_remove_2 rfl 0 rfl ?_
  obtain ⟨t1, h0, h⟩ := bd h
  refine q_getI h0 dX6_remove_3 fl6_44 rfl ?_
  obtain ⟨t2, S3, h0, h⟩ := bd2_s h
  refine r_invS (As := [.int v1, .int t1]) (st := [.ref v0]) dX6_remove_6 ls6_67 (by unfold RM; decide) (Nat.le_of_ble_eq_true rfl) rfl rfl (T_X6_out hl h0) ?_
  refine r_iconst (v := (0 : Int32)) dX6_remove_9 (by decide) ?_
  obtain ⟨z4, hk, h⟩ := bd h
  obtain ⟨t5, S6, h0, h⟩ := bd2_s h
  refine r_invV (As := [.int t2, .int ((0 : Int32))]) (st := []) dX6_remove_10 lv6_47 (by unfold RM; decide) (Nat.le_of_ble_eq_true rfl) rfl rfl (pk_ok hk) (T_X6_throwing hl h0) ?_
  refine r_if_ne (tgt := 21) dX6_remove_13 (by decide) (fun c7 => ?_) (fun c7 => ?_)
  · rw [if_neg c7] at h
    cases h
    exact r_return dX6_remove_21 rfl (by decide) (by decide)
  · rw [if_pos c7] at h
    refine r_aload_n dX6_remove_16 rfl 0 rfl ?_
    refine r_iload_n dX6_remove_17 rfl 1 rfl ?_
    obtain ⟨z8, hk, h⟩ := bd h
    obtain ⟨S10, h0, h⟩ := bd h
    refine r_invV (As := [.int v1]) (st := []) dX6_remove_18 lv6_84 (by unfold RM; decide) (Nat.le_of_ble_eq_true rfl) rfl rfl (pk_ok hk) (T_X6_close hl h0) ?_
    cases h
    exact r_return dX6_remove_21 rfl (by decide) (by decide)

def F_X6_shortest_J39 (K5 : Nat → Int32 → Int32 → Int32 → Mem → Option (Int32 × Mem)) (v0 : Nat) (v1 : Int32) (v3 : Int32) (s0 : Int32) (S : Mem) : Option (Int32 × Mem) :=
    K5 v0 v1 s0 (v3 + 1) S
set_option maxRecDepth 100000 in
theorem T_X6_shortest_J39 {g : GG} {l : Launch} (hl : l.stackTraces = false) {S' : Mem} {r : Int32}  {K5 : Nat → Int32 → Int32 → Int32 → Mem → Option (Int32 × Mem)} (hK5 : ∀ (v0 : Nat) (v1 : Int32) (v2 : Int32) (v3 : Int32) (S : Mem), K5 v0 v1 v2 v3 S = some (r, S') → Run g l uX6_shortest (fin g uX6_shortest (cvI r) S') 5 [(0, .ref v0), (1, .int v1), (2, .int v2), (3, .int v3)] [] 0 0 S) : ∀ (v0 : Nat) (v1 : Int32) (v3 : Int32) (s0 : Int32) (S : Mem), F_X6_shortest_J39 K5 v0 v1 v3 s0 S = some (r, S') → Run g l uX6_shortest (fin g uX6_shortest (cvI r) S') 39 [(0, .ref v0), (1, .int v1), (3, .int v3)] [.int s0] 0 0 S := by
  intro v0 v1 v3 s0 S h
  unfold F_X6_shortest_J39 at h
  refine r_istore_n (lv' := [(2, .int s0), (0, .ref v0), (1, .int v1), (3, .int v3)]) dX6_shortest_39 rfl (by decide) rfl ?_
  refine r_iinc (v := v3 + 1) (lv' := [(3, .int (v3 + 1)), (2, .int s0), (0, .ref v0), (1, .int v1)]) dX6_shortest_40 3 rfl rfl (by decide) rfl ?_
  refine r_goto (tgt := 5) dX6_shortest_43 (by decide) ?_
  refine r_sub [2, 3, 1, 0] rfl ?_
  exact hK5 v0 v1 s0 (v3 + 1) S h

def F_X6_shortest_L5 : Nat → Nat → Int32 → Int32 → Int32 → Mem → Option (Int32 × Mem)
  | 0, _, _, _, _, _ => none
  | fu + 1, v0, v1, v2, v3, S =>
    (pk 6 S v0).bind fun _ =>
    bd2 (F_X6_get v0 v1 (1 : Int32) S) fun t2 S3 =>
    if t2 ≤ v3 then
      some (v2, S3)
    else
      (pk 6 S3 v0).bind fun _ =>
      bd2 (F_X6_get v0 v1 ((2 : Int32) + v3) S3) fun t6 S7 =>
      if v2 ≤ t6 then
        F_X6_shortest_J39 (F_X6_shortest_L5 fu) v0 v1 v3 v2 S7
      else
        (pk 6 S7 v0).bind fun _ =>
        bd2 (F_X6_get v0 v1 ((2 : Int32) + v3) S7) fun t10 S11 =>
        F_X6_shortest_J39 (F_X6_shortest_L5 fu) v0 v1 v3 t10 S11
set_option maxRecDepth 100000 in
theorem T_X6_shortest_L5 {g : GG} {l : Launch} (hl : l.stackTraces = false) {S' : Mem} {r : Int32}  : ∀ (fu : Nat) (v0 : Nat) (v1 : Int32) (v2 : Int32) (v3 : Int32) (S : Mem), F_X6_shortest_L5 fu v0 v1 v2 v3 S = some (r, S') → Run g l uX6_shortest (fin g uX6_shortest (cvI r) S') 5 [(0, .ref v0), (1, .int v1), (2, .int v2), (3, .int v3)] [] 0 0 S := by
  intro fu
  induction fu with
  | zero =>
    intro v0 v1 v2 v3 S h
    cases (show none = some _ from h)
  | succ fu ih =>
    intro v0 v1 v2 v3 S h
    unfold F_X6_shortest_L5 at h
    refine r_iload_n dX6_shortest_5 rfl 3 rfl ?_
    refine r_aload_n dX6_shortest_6 rfl 0 rfl ?_
    refine r_iload_n dX6_shortest_7 rfl 1 rfl ?_
    refine r_iconst (v := (1 : Int32)) dX6_shortest_8 (by decide) ?_
    obtain ⟨z1, hk, h⟩ := bd h
    obtain ⟨t2, S3, h0, h⟩ := bd2_s h
    refine r_invV (As := [.int v1, .int ((1 : Int32))]) (st := [.int v3]) dX6_shortest_9 lv6_33 (by unfold RM; decide) (Nat.le_of_ble_eq_true rfl) rfl rfl (pk_ok hk) (T_X6_get hl h0) ?_
    refine r_icmp_ge (tgt := 46) dX6_shortest_12 (by decide) (fun c4 => ?_) (fun c4 => ?_)
    · rw [if_pos c4] at h
      refine r_iload_n dX6_shortest_46 rfl 2 rfl ?_
      cases h
      exact r_ireturn dX6_shortest_47 rfl rfl (by decide) (by decide)
    · rw [if_neg c4] at h
      refine r_aload_n dX6_shortest_15 rfl 0 rfl ?_
      refine r_iload_n dX6_shortest_16 rfl 1 rfl ?_
      refine r_iconst (v := (2 : Int32)) dX6_shortest_17 (by decide) ?_
      refine r_iload_n dX6_shortest_18 rfl 3 rfl ?_
      refine r_iadd dX6_shortest_19 ?_
      obtain ⟨z5, hk, h⟩ := bd h
      obtain ⟨t6, S7, h0, h⟩ := bd2_s h
      refine r_invV (As := [.int v1, .int ((2 : Int32) + v3)]) (st := []) dX6_shortest_20 lv6_33 (by unfold RM; decide) (Nat.le_of_ble_eq_true rfl) rfl rfl (pk_ok hk) (T_X6_get hl h0) ?_
      refine r_iload_n dX6_shortest_23 rfl 2 rfl ?_
      refine r_icmp_ge (tgt := 38) dX6_shortest_24 (by decide) (fun c8 => ?_) (fun c8 => ?_)
      · rw [if_pos c8] at h
        refine r_iload_n dX6_shortest_38 rfl 2 rfl ?_
        refine r_sub [0, 1, 3] rfl ?_
        exact T_X6_shortest_J39 hl (fun v0 v1 v2 v3 S h => ih v0 v1 v2 v3 S h) v0 v1 v3 v2 S7 h
      · rw [if_neg c8] at h
        refine r_aload_n dX6_shortest_27 rfl 0 rfl ?_
        refine r_iload_n dX6_shortest_28 rfl 1 rfl ?_
        refine r_iconst (v := (2 : Int32)) dX6_shortest_29 (by decide) ?_
        refine r_iload_n dX6_shortest_30 rfl 3 rfl ?_
        refine r_iadd dX6_shortest_31 ?_
        obtain ⟨z9, hk, h⟩ := bd h
        obtain ⟨t10, S11, h0, h⟩ := bd2_s h
        refine r_invV (As := [.int v1, .int ((2 : Int32) + v3)]) (st := []) dX6_shortest_32 lv6_33 (by unfold RM; decide) (Nat.le_of_ble_eq_true rfl) rfl rfl (pk_ok hk) (T_X6_get hl h0) ?_
        refine r_goto (tgt := 39) dX6_shortest_35 (by decide) ?_
        refine r_sub [0, 1, 3] rfl ?_
        exact T_X6_shortest_J39 hl (fun v0 v1 v2 v3 S h => ih v0 v1 v2 v3 S h) v0 v1 v3 t10 S11 h

def F_X6_shortest (v0 : Nat) (v1 : Int32) (S : Mem) : Option (Int32 × Mem) :=
    F_X6_shortest_L5 FU v0 v1 (9 : Int32) (0 : Int32) S
set_option maxRecDepth 100000 in
theorem T_X6_shortest {g : GG} {l : Launch} (hl : l.stackTraces = false) {v0 : Nat} {v1 : Int32} {S S' : Mem} {r : Int32} (h : F_X6_shortest v0 v1 S = some (r, S')) : Call g l uX6_shortest [.ref v0, .int v1] S (cvI r) S' := by
  refine call_of (by decide +kernel) hl rfl (Nat.le_of_ble_eq_true rfl) ?_
  show Run g l uX6_shortest _ 0 [(0, .ref v0), (1, .int v1)] [] 0 0 S
  unfold F_X6_shortest at h
  refine r_bipush (v := (9 : Int32)) dX6_shortest_0 (by decide) ?_
  refine r_istore_n (lv' := [(2, .int ((9 : Int32))), (0, .ref v0), (1, .int v1)]) dX6_shortest_2 rfl (by decide) rfl ?_
  refine r_iconst (v := (0 : Int32)) dX6_shortest_3 (by decide) ?_
  refine r_istore_n (lv' := [(3, .int ((0 : Int32))), (2, .int ((9 : Int32))), (0, .ref v0), (1, .int v1)]) dX6_shortest_4 rfl (by decide) rfl ?_
  refine r_sub [2, 3, 1, 0] rfl ?_
  exact T_X6_shortest_L5 hl FU v0 v1 (9 : Int32) (0 : Int32) S h

def F_X6_edge (v0 : Nat) (v1 : Int32) (v2 : Int32) (v3 : Int32) (S : Mem) : Option (Int32 × Mem) :=
    (pk 6 S v0).bind fun _ =>
    bd2 (F_X6_get v0 v1 ((6 : Int32) + v2) S) fun t2 S3 =>
    if v3 = 0 then
      some (t2 &&& (3 : Int32), S3)
    else
      (pk 6 S3 v0).bind fun _ =>
      bd2 (F_X6_get v0 v1 ((2 : Int32) + v2) S3) fun t6 S7 =>
      some ((t2 >>> ((((2 : Int32) * t6) - (2 : Int32)) &&& 31)) &&& (3 : Int32), S7)
set_option maxRecDepth 100000 in
theorem T_X6_edge {g : GG} {l : Launch} (hl : l.stackTraces = false) {v0 : Nat} {v1 : Int32} {v2 : Int32} {v3 : Int32} {S S' : Mem} {r : Int32} (h : F_X6_edge v0 v1 v2 v3 S = some (r, S')) : Call g l uX6_edge [.ref v0, .int v1, .int v2, .int v3] S (cvI r) S' := by
  refine call_of (by decide +kernel) hl rfl (Nat.le_of_ble_eq_true rfl) ?_
  show Run g l uX6_edge _ 0 [(0, .ref v0), (1, .int v1), (2, .int v2), (3, .int v3)] [] 0 0 S
  unfold F_X6_edge at h
  refine r_aload_n dX6_edge_0 rfl 0 rfl ?_
  refine r_iload_n dX6_edge_1 rfl 1 rfl ?_
  refine r_bipush (v := (6 : Int32)) dX6_edge_2 (by decide) ?_
  refine r_iload_n dX6_edge_4 rfl 2 rfl ?_
  refine r_iadd dX6_edge_5 ?_
  obtain ⟨z1, hk, h⟩ := bd h
  obtain ⟨t2, S3, h0, h⟩ := bd2_s h
  refine r_invV (As := [.int v1, .int ((6 : Int32) + v2)]) (st := []) dX6_edge_6 lv6_33 (by unfold RM; decide) (Nat.le_of_ble_eq_true rfl) rfl rfl (pk_ok hk) (T_X6_get hl h0) ?_
  refine r_istore (lv' := [(4, .int t2), (0, .ref v0), (1, .int v1), (2, .int v2), (3, .int v3)]) dX6_edge_9 (by decide) rfl ?_
  refine r_iload_n dX6_edge_11 rfl 4 rfl ?_
  refine r_if_eq (tgt := 35) dX6_edge_12 (by decide) (fun c4 => ?_) (fun c4 => ?_)
  · rw [if_pos c4] at h
    refine r_iload dX6_edge_35 0 rfl ?_
    refine r_iconst (v := (3 : Int32)) dX6_edge_37 (by decide) ?_
    refine r_iand dX6_edge_38 ?_
    cases h
    exact r_ireturn dX6_edge_39 rfl rfl (by decide) (by decide)
  · rw [if_neg c4] at h
    refine r_iload dX6_edge_15 0 rfl ?_
    refine r_iconst (v := (2 : Int32)) dX6_edge_17 (by decide) ?_
    refine r_aload_n dX6_edge_18 rfl 1 rfl ?_
    refine r_iload_n dX6_edge_19 rfl 2 rfl ?_
    refine r_iconst (v := (2 : Int32)) dX6_edge_20 (by decide) ?_
    refine r_iload_n dX6_edge_21 rfl 3 rfl ?_
    refine r_iadd dX6_edge_22 ?_
    obtain ⟨z5, hk, h⟩ := bd h
    obtain ⟨t6, S7, h0, h⟩ := bd2_s h
    refine r_invV (As := [.int v1, .int ((2 : Int32) + v2)]) (st := [.int ((2 : Int32)), .int t2]) dX6_edge_23 lv6_33 (by unfold RM; decide) (Nat.le_of_ble_eq_true rfl) rfl rfl (pk_ok hk) (T_X6_get hl h0) ?_
    refine r_imul dX6_edge_26 ?_
    refine r_iconst (v := (2 : Int32)) dX6_edge_27 (by decide) ?_
    refine r_isub dX6_edge_28 ?_
    refine r_ishr dX6_edge_29 ?_
    refine r_iconst (v := (3 : Int32)) dX6_edge_30 (by decide) ?_
    refine r_iand dX6_edge_31 ?_
    refine r_goto (tgt := 39) dX6_edge_32 (by decide) ?_
    cases h
    exact r_ireturn dX6_edge_39 rfl rfl (by decide) (by decide)

def F_X6_same_J43 (K5 : Nat → Int32 → Int32 → Int32 → Int32 → Mem → Option (Int32 × Mem)) (v0 : Nat) (v1 : Int32) (v2 : Int32) (v4 : Int32) (s0 : Int32) (S : Mem) : Option (Int32 × Mem) :=
    K5 v0 v1 v2 s0 (v4 + 1) S
set_option maxRecDepth 100000 in
theorem T_X6_same_J43 {g : GG} {l : Launch} (hl : l.stackTraces = false) {S' : Mem} {r : Int32}  {K5 : Nat → Int32 → Int32 → Int32 → Int32 → Mem → Option (Int32 × Mem)} (hK5 : ∀ (v0 : Nat) (v1 : Int32) (v2 : Int32) (v3 : Int32) (v4 : Int32) (S : Mem), K5 v0 v1 v2 v3 v4 S = some (r, S') → Run g l uX6_same (fin g uX6_same (cvI r) S') 5 [(0, .ref v0), (1, .int v1), (2, .int v2), (3, .int v3), (4, .int v4)] [] 0 0 S) : ∀ (v0 : Nat) (v1 : Int32) (v2 : Int32) (v4 : Int32) (s0 : Int32) (S : Mem), F_X6_same_J43 K5 v0 v1 v2 v4 s0 S = some (r, S') → Run g l uX6_same (fin g uX6_same (cvI r) S') 43 [(0, .ref v0), (1, .int v1), (2, .int v2), (4, .int v4)] [.int s0] 0 0 S := by
  intro v0 v1 v2 v4 s0 S h
  unfold F_X6_same_J43 at h
  refine r_istore_n (lv' := [(3, .int s0), (0, .ref v0), (1, .int v1), (2, .int v2), (4, .int v4)]) dX6_same_43 rfl (by decide) rfl ?_
  refine r_iinc (v := v4 + 1) (lv' := [(4, .int (v4 + 1)), (3, .int s0), (0, .ref v0), (1, .int v1), (2, .int v2)]) dX6_same_44 4 rfl rfl (by decide) rfl ?_
  refine r_goto (tgt := 5) dX6_same_47 (by decide) ?_
  refine r_sub [2, 3, 4, 1, 0] rfl ?_
  exact hK5 v0 v1 v2 s0 (v4 + 1) S h

def F_X6_same_J42 (K5 : Nat → Int32 → Int32 → Int32 → Int32 → Mem → Option (Int32 × Mem)) (v0 : Nat) (v1 : Int32) (v2 : Int32) (v4 : Int32) (S : Mem) : Option (Int32 × Mem) :=
    F_X6_same_J43 K5 v0 v1 v2 v4 (0 : Int32) S
set_option maxRecDepth 100000 in
theorem T_X6_same_J42 {g : GG} {l : Launch} (hl : l.stackTraces = false) {S' : Mem} {r : Int32}  {K5 : Nat → Int32 → Int32 → Int32 → Int32 → Mem → Option (Int32 × Mem)} (hK5 : ∀ (v0 : Nat) (v1 : Int32) (v2 : Int32) (v3 : Int32) (v4 : Int32) (S : Mem), K5 v0 v1 v2 v3 v4 S = some (r, S') → Run g l uX6_same (fin g uX6_same (cvI r) S') 5 [(0, .ref v0), (1, .int v1), (2, .int v2), (3, .int v3), (4, .int v4)] [] 0 0 S) : ∀ (v0 : Nat) (v1 : Int32) (v2 : Int32) (v4 : Int32) (S : Mem), F_X6_same_J42 K5 v0 v1 v2 v4 S = some (r, S') → Run g l uX6_same (fin g uX6_same (cvI r) S') 42 [(0, .ref v0), (1, .int v1), (2, .int v2), (4, .int v4)] [] 0 0 S := by
  intro v0 v1 v2 v4 S h
  unfold F_X6_same_J42 at h
  refine r_iconst (v := (0 : Int32)) dX6_same_42 (by decide) ?_
  exact T_X6_same_J43 hl hK5 v0 v1 v2 v4 (0 : Int32) S h

def F_X6_same_L5 : Nat → Nat → Int32 → Int32 → Int32 → Int32 → Mem → Option (Int32 × Mem)
  | 0, _, _, _, _, _, _ => none
  | fu + 1, v0, v1, v2, v3, v4, S =>
    (pk 6 S v0).bind fun _ =>
    bd2 (F_X6_get v0 v1 (1 : Int32) S) fun t2 S3 =>
    if t2 ≤ v4 then
      rtZ v3 S3
    else
      if v3 = 0 then
        F_X6_same_J42 (F_X6_same_L5 fu) v0 v1 v2 v4 S3
      else
        (pk 6 S3 v0).bind fun _ =>
        bd2 (F_X6_edge v0 v1 v4 v2 S3) fun t7 S8 =>
        (pk 6 S8 v0).bind fun _ =>
        bd2 (F_X6_edge v0 v1 (0 : Int32) v2 S8) fun t10 S11 =>
        if t7 = t10 then
          F_X6_same_J43 (F_X6_same_L5 fu) v0 v1 v2 v4 (1 : Int32) S11
        else
          F_X6_same_J42 (F_X6_same_L5 fu) v0 v1 v2 v4 S11
set_option maxRecDepth 100000 in
theorem T_X6_same_L5 {g : GG} {l : Launch} (hl : l.stackTraces = false) {S' : Mem} {r : Int32}  : ∀ (fu : Nat) (v0 : Nat) (v1 : Int32) (v2 : Int32) (v3 : Int32) (v4 : Int32) (S : Mem), F_X6_same_L5 fu v0 v1 v2 v3 v4 S = some (r, S') → Run g l uX6_same (fin g uX6_same (cvI r) S') 5 [(0, .ref v0), (1, .int v1), (2, .int v2), (3, .int v3), (4, .int v4)] [] 0 0 S := by
  intro fu
  induction fu with
  | zero =>
    intro v0 v1 v2 v3 v4 S h
    cases (show none = some _ from h)
  | succ fu ih =>
    intro v0 v1 v2 v3 v4 S h
    unfold F_X6_same_L5 at h
    refine r_iload dX6_same_5 4 rfl ?_
    refine r_aload_n dX6_same_7 rfl 0 rfl ?_
    refine r_iload_n dX6_same_8 rfl 1 rfl ?_
    refine r_iconst (v := (1 : Int32)) dX6_same_9 (by decide) ?_
    obtain ⟨z1, hk, h⟩ := bd h
    obtain ⟨t2, S3, h0, h⟩ := bd2_s h
    refine r_invV (As := [.int v1, .int ((1 : Int32))]) (st := [.int v4]) dX6_same_10 lv6_33 (by unfold RM; decide) (Nat.le_of_ble_eq_true rfl) rfl rfl (pk_ok hk) (T_X6_get hl h0) ?_
    refine r_icmp_ge (tgt := 50) dX6_same_13 (by decide) (fun c4 => ?_) (fun c4 => ?_)
    · rw [if_pos c4] at h
      refine r_iload_n dX6_same_50 rfl 3 rfl ?_
      obtain ⟨hz, hzz⟩ := if_some h
      cases hzz
      exact r_ireturn dX6_same_51 rfl (narrow_b hz).1 (by decide) (by decide)
    · rw [if_neg c4] at h
      refine r_iload_n dX6_same_16 rfl 3 rfl ?_
      refine r_if_eq (tgt := 42) dX6_same_17 (by decide) (fun c5 => ?_) (fun c5 => ?_)
      · rw [if_pos c5] at h
        refine r_sub [0, 1, 2, 4] rfl ?_
        exact T_X6_same_J42 hl (fun v0 v1 v2 v3 v4 S h => ih v0 v1 v2 v3 v4 S h) v0 v1 v2 v4 S3 h
      · rw [if_neg c5] at h
        refine r_aload_n dX6_same_20 rfl 0 rfl ?_
        refine r_iload_n dX6_same_21 rfl 1 rfl ?_
        refine r_iload dX6_same_22 4 rfl ?_
        refine r_iload_n dX6_same_24 rfl 2 rfl ?_
        obtain ⟨z6, hk, h⟩ := bd h
        obtain ⟨t7, S8, h0, h⟩ := bd2_s h
        refine r_invV (As := [.int v1, .int v4, .int v2]) (st := []) dX6_same_25 lv6_87 (by unfold RM; decide) (Nat.le_of_ble_eq_true rfl) rfl rfl (pk_ok hk) (T_X6_edge hl h0) ?_
        refine r_aload_n dX6_same_28 rfl 0 rfl ?_
        refine r_iload_n dX6_same_29 rfl 1 rfl ?_
        refine r_iconst (v := (0 : Int32)) dX6_same_30 (by decide) ?_
        refine r_iload_n dX6_same_31 rfl 2 rfl ?_
        obtain ⟨z9, hk, h⟩ := bd h
        obtain ⟨t10, S11, h0, h⟩ := bd2_s h
        refine r_invV (As := [.int v1, .int ((0 : Int32)), .int v2]) (st := [.int t7]) dX6_same_32 lv6_87 (by unfold RM; decide) (Nat.le_of_ble_eq_true rfl) rfl rfl (pk_ok hk) (T_X6_edge hl h0) ?_
        refine r_icmp_ne (tgt := 42) dX6_same_35 (by decide) (fun c12 => ?_) (fun c12 => ?_)
        · rw [if_neg c12] at h
          refine r_sub [0, 1, 2, 4] rfl ?_
          exact T_X6_same_J42 hl (fun v0 v1 v2 v3 v4 S h => ih v0 v1 v2 v3 v4 S h) v0 v1 v2 v4 S11 h
        · rw [if_pos c12] at h
          refine r_iconst (v := (1 : Int32)) dX6_same_38 (by decide) ?_
          refine r_goto (tgt := 43) dX6_same_39 (by decide) ?_
          refine r_sub [0, 1, 2, 4] rfl ?_
          exact T_X6_same_J43 hl (fun v0 v1 v2 v3 v4 S h => ih v0 v1 v2 v3 v4 S h) v0 v1 v2 v4 (1 : Int32) S11 h

def F_X6_same (v0 : Nat) (v1 : Int32) (v2 : Int32) (S : Mem) : Option (Int32 × Mem) :=
    F_X6_same_L5 FU v0 v1 v2 (1 : Int32) (1 : Int32) S
set_option maxRecDepth 100000 in
theorem T_X6_same {g : GG} {l : Launch} (hl : l.stackTraces = false) {v0 : Nat} {v1 : Int32} {v2 : Int32} {S S' : Mem} {r : Int32} (h : F_X6_same v0 v1 v2 S = some (r, S')) : Call g l uX6_same [.ref v0, .int v1, .int v2] S (cvI r) S' := by
  refine call_of (by decide +kernel) hl rfl (Nat.le_of_ble_eq_true rfl) ?_
  show Run g l uX6_same _ 0 [(0, .ref v0), (1, .int v1), (2, .int v2)] [] 0 0 S
  unfold F_X6_same at h
  refine r_iconst (v := (1 : Int32)) dX6_same_0 (by decide) ?_
  refine r_istore_n (lv' := [(3, .int ((1 : Int32))), (0, .ref v0), (1, .int v1), (2, .int v2)]) dX6_same_1 rfl (by decide) rfl ?_
  refine r_iconst (v := (1 : Int32)) dX6_same_2 (by decide) ?_
  refine r_istore (lv' := [(4, .int ((1 : Int32))), (3, .int ((1 : Int32))), (0, .ref v0), (1, .int v1), (2, .int v2)]) dX6_same_3 (by decide) rfl ?_
  refine r_sub [2, 3, 4, 1, 0] rfl ?_
  exact T_X6_same_L5 hl FU v0 v1 v2 (1 : Int32) (1 : Int32) S h

def F_X6_step_J237 (s0 : Nat) (s1 : Int32) (s2 : Int32) (s3 : Int32) (S : Mem) : Option (Int32 × Mem) :=
    (pk 6 S s0).bind fun _ =>
    (F_X6_put s0 s1 s2 s3 S).bind fun S3 =>
    some ((1 : Int32), S3)
set_option maxRecDepth 100000 in
theorem T_X6_step_J237 {g : GG} {l : Launch} (hl : l.stackTraces = false) {S' : Mem} {r : Int32}  : ∀ (s0 : Nat) (s1 : Int32) (s2 : Int32) (s3 : Int32) (S : Mem), F_X6_step_J237 s0 s1 s2 s3 S = some (r, S') → Run g l uX6_step (fin g uX6_step (cvI r) S') 237 [] [.int s3, .int s2, .int s1, .ref s0] 0 0 S := by
  intro s0 s1 s2 s3 S h
  unfold F_X6_step_J237 at h
  obtain ⟨z1, hk, h⟩ := bd h
  obtain ⟨S3, h0, h⟩ := bd h
  refine r_invV (As := [.int s1, .int s2, .int s3]) (st := []) dX6_step_237 lv6_29 (by unfold RM; decide) (Nat.le_of_ble_eq_true rfl) rfl rfl (pk_ok hk) (T_X6_put hl h0) ?_
  refine r_iconst (v := (1 : Int32)) dX6_step_240 (by decide) ?_
  cases h
  exact r_ireturn dX6_step_241 rfl (by decide) (by decide) (by decide)

def F_X6_step_J203 (K70 : Nat → Int32 → Int32 → Int32 → Int32 → Int32 → Mem → Option (Int32 × Mem)) (v0 : Nat) (v1 : Int32) (v2 : Int32) (v3 : Int32) (v4 : Int32) (v5 : Int32) (s0 : Nat) (s1 : Int32) (s2 : Int32) (s3 : Int32) (S : Mem) : Option (Int32 × Mem) :=
    (pk 6 S s0).bind fun _ =>
    (F_X6_put s0 s1 s2 s3 S).bind fun S6 =>
    K70 v0 v1 v2 v3 v4 (v5 + 1) S6
set_option maxRecDepth 100000 in
theorem T_X6_step_J203 {g : GG} {l : Launch} (hl : l.stackTraces = false) {S' : Mem} {r : Int32}  {K70 : Nat → Int32 → Int32 → Int32 → Int32 → Int32 → Mem → Option (Int32 × Mem)} (hK70 : ∀ (v0 : Nat) (v1 : Int32) (v2 : Int32) (v3 : Int32) (v4 : Int32) (v5 : Int32) (S : Mem), K70 v0 v1 v2 v3 v4 v5 S = some (r, S') → Run g l uX6_step (fin g uX6_step (cvI r) S') 70 [(0, .ref v0), (1, .int v1), (2, .int v2), (3, .int v3), (4, .int v4), (5, .int v5)] [] 0 0 S) : ∀ (v0 : Nat) (v1 : Int32) (v2 : Int32) (v3 : Int32) (v4 : Int32) (v5 : Int32) (s0 : Nat) (s1 : Int32) (s2 : Int32) (s3 : Int32) (S : Mem), F_X6_step_J203 K70 v0 v1 v2 v3 v4 v5 s0 s1 s2 s3 S = some (r, S') → Run g l uX6_step (fin g uX6_step (cvI r) S') 203 [(0, .ref v0), (1, .int v1), (2, .int v2), (3, .int v3), (4, .int v4), (5, .int v5)] [.int s3, .int s2, .int s1, .ref s0] 0 0 S := by
  intro v0 v1 v2 v3 v4 v5 s0 s1 s2 s3 S h
  unfold F_X6_step_J203 at h
  obtain ⟨z4, hk, h⟩ := bd h
  obtain ⟨S6, h0, h⟩ := bd h
  refine r_invV (As := [.int s1, .int s2, .int s3]) (st := []) dX6_step_203 lv6_29 (by unfold RM; decide) (Nat.le_of_ble_eq_true rfl) rfl rfl (pk_ok hk) (T_X6_put hl h0) ?_
  refine r_iinc (v := v5 + 1) (lv' := [(5, .int (v5 + 1)), (0, .ref v0), (1, .int v1), (2, .int v2), (3, .int v3), (4, .int v4)]) dX6_step_206 5 rfl rfl (by decide) rfl ?_
  refine r_goto (tgt := 70) dX6_step_209 (by decide) ?_
  refine r_sub [1, 2, 3, 4, 5, 0] rfl ?_
  exact hK70 v0 v1 v2 v3 v4 (v5 + 1) S6 h

def F_X6_step_J180 (K70 : Nat → Int32 → Int32 → Int32 → Int32 → Int32 → Mem → Option (Int32 × Mem)) (v0 : Nat) (v1 : Int32) (v2 : Int32) (v3 : Int32) (v4 : Int32) (v5 : Int32) (v6 : Int32) (v8 : Int32) (s0 : Nat) (s1 : Int32) (s2 : Int32) (s3 : Int32) (S : Mem) : Option (Int32 × Mem) :=
    (pk 6 S s0).bind fun _ =>
    (F_X6_put s0 s1 s2 s3 S).bind fun S9 =>
    if v8 = 0 then
      F_X6_step_J203 K70 v0 v1 v2 v3 v4 v5 v0 v1 ((2 : Int32) + v5) v6 S9
    else
      F_X6_step_J203 K70 v0 v1 v2 v3 v4 v5 v0 v1 ((2 : Int32) + v5) (v6 + (1 : Int32)) S9
set_option maxRecDepth 100000 in
theorem T_X6_step_J180 {g : GG} {l : Launch} (hl : l.stackTraces = false) {S' : Mem} {r : Int32}  {K70 : Nat → Int32 → Int32 → Int32 → Int32 → Int32 → Mem → Option (Int32 × Mem)} (hK70 : ∀ (v0 : Nat) (v1 : Int32) (v2 : Int32) (v3 : Int32) (v4 : Int32) (v5 : Int32) (S : Mem), K70 v0 v1 v2 v3 v4 v5 S = some (r, S') → Run g l uX6_step (fin g uX6_step (cvI r) S') 70 [(0, .ref v0), (1, .int v1), (2, .int v2), (3, .int v3), (4, .int v4), (5, .int v5)] [] 0 0 S) : ∀ (v0 : Nat) (v1 : Int32) (v2 : Int32) (v3 : Int32) (v4 : Int32) (v5 : Int32) (v6 : Int32) (v8 : Int32) (s0 : Nat) (s1 : Int32) (s2 : Int32) (s3 : Int32) (S : Mem), F_X6_step_J180 K70 v0 v1 v2 v3 v4 v5 v6 v8 s0 s1 s2 s3 S = some (r, S') → Run g l uX6_step (fin g uX6_step (cvI r) S') 180 [(0, .ref v0), (1, .int v1), (2, .int v2), (3, .int v3), (4, .int v4), (5, .int v5), (6, .int v6), (8, .int v8)] [.int s3, .int s2, .int s1, .ref s0] 0 0 S := by
  intro v0 v1 v2 v3 v4 v5 v6 v8 s0 s1 s2 s3 S h
  unfold F_X6_step_J180 at h
  obtain ⟨z7, hk, h⟩ := bd h
  obtain ⟨S9, h0, h⟩ := bd h
  refine r_invV (As := [.int s1, .int s2, .int s3]) (st := []) dX6_step_180 lv6_29 (by unfold RM; decide) (Nat.le_of_ble_eq_true rfl) rfl rfl (pk_ok hk) (T_X6_put hl h0) ?_
  refine r_aload_n dX6_step_183 rfl 0 rfl ?_
  refine r_iload_n dX6_step_184 rfl 1 rfl ?_
  refine r_iconst (v := (2 : Int32)) dX6_step_185 (by decide) ?_
  refine r_iload dX6_step_186 5 rfl ?_
  refine r_iadd dX6_step_188 ?_
  refine r_iload dX6_step_189 7 rfl ?_
  refine r_if_eq (tgt := 201) dX6_step_191 (by decide) (fun c10 => ?_) (fun c10 => ?_)
  · rw [if_pos c10] at h
    refine r_iload dX6_step_201 6 rfl ?_
    refine r_sub [0, 1, 2, 3, 4, 5] rfl ?_
    exact T_X6_step_J203 hl hK70 v0 v1 v2 v3 v4 v5 v0 v1 ((2 : Int32) + v5) v6 S9 h
  · rw [if_neg c10] at h
    refine r_iload dX6_step_194 6 rfl ?_
    refine r_iconst (v := (1 : Int32)) dX6_step_196 (by decide) ?_
    refine r_iadd dX6_step_197 ?_
    refine r_goto (tgt := 203) dX6_step_198 (by decide) ?_
    refine r_sub [0, 1, 2, 3, 4, 5] rfl ?_
    exact T_X6_step_J203 hl hK70 v0 v1 v2 v3 v4 v5 v0 v1 ((2 : Int32) + v5) (v6 + (1 : Int32)) S9 h

def F_X6_step_J145 (K70 : Nat → Int32 → Int32 → Int32 → Int32 → Int32 → Mem → Option (Int32 × Mem)) (v0 : Nat) (v1 : Int32) (v2 : Int32) (v3 : Int32) (v4 : Int32) (v5 : Int32) (v6 : Int32) (v7 : Int32) (s0 : Int32) (S : Mem) : Option (Int32 × Mem) :=
    if s0 = 0 then
      F_X6_step_J180 K70 v0 v1 v2 v3 v4 v5 v6 s0 v0 v1 ((6 : Int32) + v5) v7 S
    else
      (pgR 6 1 S v0).bind fun t12 =>
      (paI S t12 (v2 - (1 : Int32))).bind fun t13 =>
      F_X6_step_J180 K70 v0 v1 v2 v3 v4 v5 v6 s0 v0 v1 ((6 : Int32) + v5) (v7 ||| (t13 <<< (((2 : Int32) * v6) &&& 31))) S
set_option maxRecDepth 100000 in
theorem T_X6_step_J145 {g : GG} {l : Launch} (hl : l.stackTraces = false) {S' : Mem} {r : Int32}  {K70 : Nat → Int32 → Int32 → Int32 → Int32 → Int32 → Mem → Option (Int32 × Mem)} (hK70 : ∀ (v0 : Nat) (v1 : Int32) (v2 : Int32) (v3 : Int32) (v4 : Int32) (v5 : Int32) (S : Mem), K70 v0 v1 v2 v3 v4 v5 S = some (r, S') → Run g l uX6_step (fin g uX6_step (cvI r) S') 70 [(0, .ref v0), (1, .int v1), (2, .int v2), (3, .int v3), (4, .int v4), (5, .int v5)] [] 0 0 S) : ∀ (v0 : Nat) (v1 : Int32) (v2 : Int32) (v3 : Int32) (v4 : Int32) (v5 : Int32) (v6 : Int32) (v7 : Int32) (s0 : Int32) (S : Mem), F_X6_step_J145 K70 v0 v1 v2 v3 v4 v5 v6 v7 s0 S = some (r, S') → Run g l uX6_step (fin g uX6_step (cvI r) S') 145 [(0, .ref v0), (1, .int v1), (2, .int v2), (3, .int v3), (4, .int v4), (5, .int v5), (6, .int v6), (7, .int v7)] [.int s0] 0 0 S := by
  intro v0 v1 v2 v3 v4 v5 v6 v7 s0 S h
  unfold F_X6_step_J145 at h
  refine r_istore (lv' := [(8, .int s0), (0, .ref v0), (1, .int v1), (2, .int v2), (3, .int v3), (4, .int v4), (5, .int v5), (6, .int v6), (7, .int v7)]) dX6_step_145 (by decide) rfl ?_
  refine r_aload_n dX6_step_147 rfl 1 rfl ?_
  refine r_iload_n dX6_step_148 rfl 2 rfl ?_
  refine r_bipush (v := (6 : Int32)) dX6_step_149 (by decide) ?_
  refine r_iload dX6_step_151 6 rfl ?_
  refine r_iadd dX6_step_153 ?_
  refine r_iload dX6_step_154 0 rfl ?_
  refine r_if_eq (tgt := 178) dX6_step_156 (by decide) (fun c11 => ?_) (fun c11 => ?_)
  · rw [if_pos c11] at h
    refine r_iload dX6_step_178 8 rfl ?_
    refine r_sub [1, 2, 3, 4, 5, 6, 7, 0] rfl ?_
    exact T_X6_step_J180 hl hK70 v0 v1 v2 v3 v4 v5 v6 s0 v0 v1 ((6 : Int32) + v5) v7 S h
  · rw [if_neg c11] at h
    refine r_iload dX6_step_159 8 rfl ?_
    refine r_aload_n dX6_step_161 rfl 1 rfl ?_
    obtain ⟨t12, h0, h⟩ := bd h
    refine q_getR h0 dX6_step_162 fl6_7 rfl ?_
    refine r_iload_n dX6_step_165 rfl 3 rfl ?_
    refine r_iconst (v := (1 : Int32)) dX6_step_166 (by decide) ?_
    refine r_isub dX6_step_167 ?_
    obtain ⟨t13, h0, h⟩ := bd h
    refine q_iaload h0 dX6_step_168 ?_
    refine r_iconst (v := (2 : Int32)) dX6_step_169 (by decide) ?_
    refine r_iload dX6_step_170 7 rfl ?_
    refine r_imul dX6_step_172 ?_
    refine r_ishl dX6_step_173 ?_
    refine r_ior dX6_step_174 ?_
    refine r_goto (tgt := 180) dX6_step_175 (by decide) ?_
    refine r_sub [1, 2, 3, 4, 5, 6, 7, 0] rfl ?_
    exact T_X6_step_J180 hl hK70 v0 v1 v2 v3 v4 v5 v6 s0 v0 v1 ((6 : Int32) + v5) (v7 ||| (t13 <<< (((2 : Int32) * v6) &&& 31))) S h

def F_X6_step_J144 (K70 : Nat → Int32 → Int32 → Int32 → Int32 → Int32 → Mem → Option (Int32 × Mem)) (v0 : Nat) (v1 : Int32) (v2 : Int32) (v3 : Int32) (v4 : Int32) (v5 : Int32) (v6 : Int32) (v7 : Int32) (S : Mem) : Option (Int32 × Mem) :=
    F_X6_step_J145 K70 v0 v1 v2 v3 v4 v5 v6 v7 (0 : Int32) S
set_option maxRecDepth 100000 in
theorem T_X6_step_J144 {g : GG} {l : Launch} (hl : l.stackTraces = false) {S' : Mem} {r : Int32}  {K70 : Nat → Int32 → Int32 → Int32 → Int32 → Int32 → Mem → Option (Int32 × Mem)} (hK70 : ∀ (v0 : Nat) (v1 : Int32) (v2 : Int32) (v3 : Int32) (v4 : Int32) (v5 : Int32) (S : Mem), K70 v0 v1 v2 v3 v4 v5 S = some (r, S') → Run g l uX6_step (fin g uX6_step (cvI r) S') 70 [(0, .ref v0), (1, .int v1), (2, .int v2), (3, .int v3), (4, .int v4), (5, .int v5)] [] 0 0 S) : ∀ (v0 : Nat) (v1 : Int32) (v2 : Int32) (v3 : Int32) (v4 : Int32) (v5 : Int32) (v6 : Int32) (v7 : Int32) (S : Mem), F_X6_step_J144 K70 v0 v1 v2 v3 v4 v5 v6 v7 S = some (r, S') → Run g l uX6_step (fin g uX6_step (cvI r) S') 144 [(0, .ref v0), (1, .int v1), (2, .int v2), (3, .int v3), (4, .int v4), (5, .int v5), (6, .int v6), (7, .int v7)] [] 0 0 S := by
  intro v0 v1 v2 v3 v4 v5 v6 v7 S h
  unfold F_X6_step_J144 at h
  refine r_iconst (v := (0 : Int32)) dX6_step_144 (by decide) ?_
  exact T_X6_step_J145 hl hK70 v0 v1 v2 v3 v4 v5 v6 v7 (0 : Int32) S h

def F_X6_step_J129 (K70 : Nat → Int32 → Int32 → Int32 → Int32 → Int32 → Mem → Option (Int32 × Mem)) (v0 : Nat) (v1 : Int32) (v2 : Int32) (v3 : Int32) (v4 : Int32) (v5 : Int32) (v6 : Int32) (s0 : Int32) (S : Mem) : Option (Int32 × Mem) :=
    if v4 = 0 then
      F_X6_step_J144 K70 v0 v1 v2 v3 v4 v5 v6 s0 S
    else
      if v3 = 0 then
        F_X6_step_J145 K70 v0 v1 v2 v3 v4 v5 v6 s0 (1 : Int32) S
      else
        F_X6_step_J144 K70 v0 v1 v2 v3 v4 v5 v6 s0 S
set_option maxRecDepth 100000 in
theorem T_X6_step_J129 {g : GG} {l : Launch} (hl : l.stackTraces = false) {S' : Mem} {r : Int32}  {K70 : Nat → Int32 → Int32 → Int32 → Int32 → Int32 → Mem → Option (Int32 × Mem)} (hK70 : ∀ (v0 : Nat) (v1 : Int32) (v2 : Int32) (v3 : Int32) (v4 : Int32) (v5 : Int32) (S : Mem), K70 v0 v1 v2 v3 v4 v5 S = some (r, S') → Run g l uX6_step (fin g uX6_step (cvI r) S') 70 [(0, .ref v0), (1, .int v1), (2, .int v2), (3, .int v3), (4, .int v4), (5, .int v5)] [] 0 0 S) : ∀ (v0 : Nat) (v1 : Int32) (v2 : Int32) (v3 : Int32) (v4 : Int32) (v5 : Int32) (v6 : Int32) (s0 : Int32) (S : Mem), F_X6_step_J129 K70 v0 v1 v2 v3 v4 v5 v6 s0 S = some (r, S') → Run g l uX6_step (fin g uX6_step (cvI r) S') 129 [(0, .ref v0), (1, .int v1), (2, .int v2), (3, .int v3), (4, .int v4), (5, .int v5), (6, .int v6)] [.int s0] 0 0 S := by
  intro v0 v1 v2 v3 v4 v5 v6 s0 S h
  unfold F_X6_step_J129 at h
  refine r_istore (lv' := [(7, .int s0), (0, .ref v0), (1, .int v1), (2, .int v2), (3, .int v3), (4, .int v4), (5, .int v5), (6, .int v6)]) dX6_step_129 (by decide) rfl ?_
  refine r_iload dX6_step_131 5 rfl ?_
  refine r_if_eq (tgt := 144) dX6_step_133 (by decide) (fun c14 => ?_) (fun c14 => ?_)
  · rw [if_pos c14] at h
    refine r_sub [1, 2, 3, 4, 5, 6, 7, 0] rfl ?_
    exact T_X6_step_J144 hl hK70 v0 v1 v2 v3 v4 v5 v6 s0 S h
  · rw [if_neg c14] at h
    refine r_iload_n dX6_step_136 rfl 4 rfl ?_
    refine r_if_ne (tgt := 144) dX6_step_137 (by decide) (fun c15 => ?_) (fun c15 => ?_)
    · rw [if_neg c15] at h
      refine r_sub [1, 2, 3, 4, 5, 6, 7, 0] rfl ?_
      exact T_X6_step_J144 hl hK70 v0 v1 v2 v3 v4 v5 v6 s0 S h
    · rw [if_pos c15] at h
      refine r_iconst (v := (1 : Int32)) dX6_step_140 (by decide) ?_
      refine r_goto (tgt := 145) dX6_step_141 (by decide) ?_
      refine r_sub [1, 2, 3, 4, 5, 6, 7, 0] rfl ?_
      exact T_X6_step_J145 hl hK70 v0 v1 v2 v3 v4 v5 v6 s0 (1 : Int32) S h

def F_X6_step_L70 : Nat → Nat → Int32 → Int32 → Int32 → Int32 → Int32 → Mem → Option (Int32 × Mem)
  | 0, _, _, _, _, _, _, _ => none
  | fu + 1, v0, v1, v2, v3, v4, v5, S =>
    (pk 6 S v0).bind fun _ =>
    bd2 (F_X6_get v0 v1 (1 : Int32) S) fun t17 S18 =>
    if t17 ≤ v5 then
      if v4 = 0 then
        F_X6_step_J237 v0 v1 (0 : Int32) (v2 + (1 : Int32)) S18
      else
        if v3 = 0 then
          F_X6_step_J237 v0 v1 (0 : Int32) (v2 - (1 : Int32)) S18
        else
          F_X6_step_J237 v0 v1 (0 : Int32) v2 S18
    else
      (pk 6 S18 v0).bind fun _ =>
      bd2 (F_X6_get v0 v1 ((2 : Int32) + v5) S18) fun t23 S24 =>
      (pk 6 S24 v0).bind fun _ =>
      bd2 (F_X6_get v0 v1 ((6 : Int32) + v5) S24) fun t26 S27 =>
      if v4 = 0 then
        F_X6_step_J129 (F_X6_step_L70 fu) v0 v1 v2 v3 v4 v5 (t23 - (1 : Int32)) (t26 &&& (((1 : Int32) <<< (((2 : Int32) * (t23 - (1 : Int32))) &&& 31)) - (1 : Int32))) S27
      else
        F_X6_step_J129 (F_X6_step_L70 fu) v0 v1 v2 v3 v4 v5 (t23 - (1 : Int32)) (t26 >>> ((2 : Int32) &&& 31)) S27
set_option maxRecDepth 100000 in
theorem T_X6_step_L70 {g : GG} {l : Launch} (hl : l.stackTraces = false) {S' : Mem} {r : Int32}  : ∀ (fu : Nat) (v0 : Nat) (v1 : Int32) (v2 : Int32) (v3 : Int32) (v4 : Int32) (v5 : Int32) (S : Mem), F_X6_step_L70 fu v0 v1 v2 v3 v4 v5 S = some (r, S') → Run g l uX6_step (fin g uX6_step (cvI r) S') 70 [(0, .ref v0), (1, .int v1), (2, .int v2), (3, .int v3), (4, .int v4), (5, .int v5)] [] 0 0 S := by
  intro fu
  induction fu with
  | zero =>
    intro v0 v1 v2 v3 v4 v5 S h
    cases (show none = some _ from h)
  | succ fu ih =>
    intro v0 v1 v2 v3 v4 v5 S h
    unfold F_X6_step_L70 at h
    refine r_iload dX6_step_70 5 rfl ?_
    refine r_aload_n dX6_step_72 rfl 0 rfl ?_
    refine r_iload_n dX6_step_73 rfl 1 rfl ?_
    refine r_iconst (v := (1 : Int32)) dX6_step_74 (by decide) ?_
    obtain ⟨z16, hk, h⟩ := bd h
    obtain ⟨t17, S18, h0, h⟩ := bd2_s h
    refine r_invV (As := [.int v1, .int ((1 : Int32))]) (st := [.int v5]) dX6_step_75 lv6_33 (by unfold RM; decide) (Nat.le_of_ble_eq_true rfl) rfl rfl (pk_ok hk) (T_X6_get hl h0) ?_
    refine r_icmp_ge (tgt := 212) dX6_step_78 (by decide) (fun c19 => ?_) (fun c19 => ?_)
    · rw [if_pos c19] at h
      refine r_aload_n dX6_step_212 rfl 0 rfl ?_
      refine r_iload_n dX6_step_213 rfl 1 rfl ?_
      refine r_iconst (v := (0 : Int32)) dX6_step_214 (by decide) ?_
      refine r_iload dX6_step_215 4 rfl ?_
      refine r_if_eq (tgt := 234) dX6_step_217 (by decide) (fun c20 => ?_) (fun c20 => ?_)
      · rw [if_pos c20] at h
        refine r_iload_n dX6_step_234 rfl 2 rfl ?_
        refine r_iconst (v := (1 : Int32)) dX6_step_235 (by decide) ?_
        refine r_iadd dX6_step_236 ?_
        refine r_sub [] rfl ?_
        exact T_X6_step_J237 hl v0 v1 (0 : Int32) (v2 + (1 : Int32)) S18 h
      · rw [if_neg c20] at h
        refine r_iload_n dX6_step_220 rfl 3 rfl ?_
        refine r_if_eq (tgt := 228) dX6_step_221 (by decide) (fun c21 => ?_) (fun c21 => ?_)
        · rw [if_pos c21] at h
          refine r_iload_n dX6_step_228 rfl 2 rfl ?_
          refine r_iconst (v := (1 : Int32)) dX6_step_229 (by decide) ?_
          refine r_isub dX6_step_230 ?_
          refine r_goto (tgt := 237) dX6_step_231 (by decide) ?_
          refine r_sub [] rfl ?_
          exact T_X6_step_J237 hl v0 v1 (0 : Int32) (v2 - (1 : Int32)) S18 h
        · rw [if_neg c21] at h
          refine r_iload_n dX6_step_224 rfl 2 rfl ?_
          refine r_goto (tgt := 237) dX6_step_225 (by decide) ?_
          refine r_sub [] rfl ?_
          exact T_X6_step_J237 hl v0 v1 (0 : Int32) v2 S18 h
    · rw [if_neg c19] at h
      refine r_aload_n dX6_step_81 rfl 0 rfl ?_
      refine r_iload_n dX6_step_82 rfl 1 rfl ?_
      refine r_iconst (v := (2 : Int32)) dX6_step_83 (by decide) ?_
      refine r_iload dX6_step_84 5 rfl ?_
      refine r_iadd dX6_step_86 ?_
      obtain ⟨z22, hk, h⟩ := bd h
      obtain ⟨t23, S24, h0, h⟩ := bd2_s h
      refine r_invV (As := [.int v1, .int ((2 : Int32) + v5)]) (st := []) dX6_step_87 lv6_33 (by unfold RM; decide) (Nat.le_of_ble_eq_true rfl) rfl rfl (pk_ok hk) (T_X6_get hl h0) ?_
      refine r_iconst (v := (1 : Int32)) dX6_step_90 (by decide) ?_
      refine r_isub dX6_step_91 ?_
      refine r_istore (lv' := [(6, .int (t23 - (1 : Int32))), (0, .ref v0), (1, .int v1), (2, .int v2), (3, .int v3), (4, .int v4), (5, .int v5)]) dX6_step_92 (by decide) rfl ?_
      refine r_aload_n dX6_step_94 rfl 1 rfl ?_
      refine r_iload_n dX6_step_95 rfl 2 rfl ?_
      refine r_bipush (v := (6 : Int32)) dX6_step_96 (by decide) ?_
      refine r_iload dX6_step_98 6 rfl ?_
      refine r_iadd dX6_step_100 ?_
      obtain ⟨z25, hk, h⟩ := bd h
      obtain ⟨t26, S27, h0, h⟩ := bd2_s h
      refine r_invV (As := [.int v1, .int ((6 : Int32) + v5)]) (st := []) dX6_step_101 lv6_33 (by unfold RM; decide) (Nat.le_of_ble_eq_true rfl) rfl rfl (pk_ok hk) (T_X6_get hl h0) ?_
      refine r_istore (lv' := [(7, .int t26), (6, .int (t23 - (1 : Int32))), (0, .ref v0), (1, .int v1), (2, .int v2), (3, .int v3), (4, .int v4), (5, .int v5)]) dX6_step_104 (by decide) rfl ?_
      refine r_iload dX6_step_106 6 rfl ?_
      refine r_if_eq (tgt := 118) dX6_step_108 (by decide) (fun c28 => ?_) (fun c28 => ?_)
      · rw [if_pos c28] at h
        refine r_iload dX6_step_118 0 rfl ?_
        refine r_iconst (v := (1 : Int32)) dX6_step_120 (by decide) ?_
        refine r_iconst (v := (2 : Int32)) dX6_step_121 (by decide) ?_
        refine r_iload dX6_step_122 1 rfl ?_
        refine r_imul dX6_step_124 ?_
        refine r_ishl dX6_step_125 ?_
        refine r_iconst (v := (1 : Int32)) dX6_step_126 (by decide) ?_
        refine r_isub dX6_step_127 ?_
        refine r_iand dX6_step_128 ?_
        refine r_sub [2, 3, 4, 5, 6, 7, 1] rfl ?_
        exact T_X6_step_J129 hl (fun v0 v1 v2 v3 v4 v5 S h => ih v0 v1 v2 v3 v4 v5 S h) v0 v1 v2 v3 v4 v5 (t23 - (1 : Int32)) (t26 &&& (((1 : Int32) <<< (((2 : Int32) * (t23 - (1 : Int32))) &&& 31)) - (1 : Int32))) S27 h
      · rw [if_neg c28] at h
        refine r_iload dX6_step_111 0 rfl ?_
        refine r_iconst (v := (2 : Int32)) dX6_step_113 (by decide) ?_
        refine r_ishr dX6_step_114 ?_
        refine r_goto (tgt := 129) dX6_step_115 (by decide) ?_
        refine r_sub [2, 3, 4, 5, 6, 7, 1] rfl ?_
        exact T_X6_step_J129 hl (fun v0 v1 v2 v3 v4 v5 S h => ih v0 v1 v2 v3 v4 v5 S h) v0 v1 v2 v3 v4 v5 (t23 - (1 : Int32)) (t26 >>> ((2 : Int32) &&& 31)) S27 h

def F_X6_step_J67 (v0 : Nat) (v1 : Int32) (v2 : Int32) (v3 : Int32) (v4 : Int32) (S : Mem) : Option (Int32 × Mem) :=
    F_X6_step_L70 FU v0 v1 v2 v3 v4 (0 : Int32) S
set_option maxRecDepth 100000 in
theorem T_X6_step_J67 {g : GG} {l : Launch} (hl : l.stackTraces = false) {S' : Mem} {r : Int32}  : ∀ (v0 : Nat) (v1 : Int32) (v2 : Int32) (v3 : Int32) (v4 : Int32) (S : Mem), F_X6_step_J67 v0 v1 v2 v3 v4 S = some (r, S') → Run g l uX6_step (fin g uX6_step (cvI r) S') 67 [(0, .ref v0), (1, .int v1), (2, .int v2), (3, .int v3), (4, .int v4)] [] 0 0 S := by
  intro v0 v1 v2 v3 v4 S h
  unfold F_X6_step_J67 at h
  refine r_iconst (v := (0 : Int32)) dX6_step_67 (by decide) ?_
  refine r_istore (lv' := [(5, .int ((0 : Int32))), (0, .ref v0), (1, .int v1), (2, .int v2), (3, .int v3), (4, .int v4)]) dX6_step_68 (by decide) rfl ?_
  refine r_sub [1, 2, 3, 4, 5, 0] rfl ?_
  exact T_X6_step_L70 hl FU v0 v1 v2 v3 v4 (0 : Int32) S h

def F_X6_step_J45 (v0 : Nat) (v1 : Int32) (v2 : Int32) (v3 : Int32) (s0 : Int32) (S : Mem) : Option (Int32 × Mem) :=
    if s0 = 0 then
      if v3 = 0 then
        some ((0 : Int32), S)
      else
        (pk 6 S v0).bind fun _ =>
        bd2 (F_X6_same v0 v1 (1 : Int32) S) fun t32 S33 =>
        if t32 = 0 then
          some ((0 : Int32), S33)
        else
          F_X6_step_J67 v0 v1 v2 v3 s0 S33
    else
      F_X6_step_J67 v0 v1 v2 v3 s0 S
set_option maxRecDepth 100000 in
theorem T_X6_step_J45 {g : GG} {l : Launch} (hl : l.stackTraces = false) {S' : Mem} {r : Int32}  : ∀ (v0 : Nat) (v1 : Int32) (v2 : Int32) (v3 : Int32) (s0 : Int32) (S : Mem), F_X6_step_J45 v0 v1 v2 v3 s0 S = some (r, S') → Run g l uX6_step (fin g uX6_step (cvI r) S') 45 [(0, .ref v0), (1, .int v1), (2, .int v2), (3, .int v3)] [.int s0] 0 0 S := by
  intro v0 v1 v2 v3 s0 S h
  unfold F_X6_step_J45 at h
  refine r_istore (lv' := [(4, .int s0), (0, .ref v0), (1, .int v1), (2, .int v2), (3, .int v3)]) dX6_step_45 (by decide) rfl ?_
  refine r_iload dX6_step_47 0 rfl ?_
  refine r_if_ne (tgt := 67) dX6_step_49 (by decide) (fun c29 => ?_) (fun c29 => ?_)
  · rw [if_neg c29] at h
    refine r_sub [1, 2, 3, 4, 0] rfl ?_
    exact T_X6_step_J67 hl v0 v1 v2 v3 s0 S h
  · rw [if_pos c29] at h
    refine r_iload_n dX6_step_52 rfl 4 rfl ?_
    refine r_if_eq (tgt := 65) dX6_step_53 (by decide) (fun c30 => ?_) (fun c30 => ?_)
    · rw [if_pos c30] at h
      refine r_iconst (v := (0 : Int32)) dX6_step_65 (by decide) ?_
      cases h
      exact r_ireturn dX6_step_66 rfl (by decide) (by decide) (by decide)
    · rw [if_neg c30] at h
      refine r_aload_n dX6_step_56 rfl 1 rfl ?_
      refine r_iload_n dX6_step_57 rfl 2 rfl ?_
      refine r_iconst (v := (1 : Int32)) dX6_step_58 (by decide) ?_
      obtain ⟨z31, hk, h⟩ := bd h
      obtain ⟨t32, S33, h0, h⟩ := bd2_s h
      refine r_invV (As := [.int v1, .int ((1 : Int32))]) (st := []) dX6_step_59 lv6_94 (by unfold RM; decide) (Nat.le_of_ble_eq_true rfl) rfl rfl (pk_ok hk) (T_X6_same hl h0) ?_
      refine r_if_ne (tgt := 67) dX6_step_62 (by decide) (fun c34 => ?_) (fun c34 => ?_)
      · rw [if_neg c34] at h
        refine r_sub [1, 2, 3, 4, 0] rfl ?_
        exact T_X6_step_J67 hl v0 v1 v2 v3 s0 S33 h
      · rw [if_pos c34] at h
        refine r_iconst (v := (0 : Int32)) dX6_step_65 (by decide) ?_
        cases h
        exact r_ireturn dX6_step_66 rfl (by decide) (by decide) (by decide)

def F_X6_step_J44 (v0 : Nat) (v1 : Int32) (v2 : Int32) (v3 : Int32) (S : Mem) : Option (Int32 × Mem) :=
    F_X6_step_J45 v0 v1 v2 v3 (0 : Int32) S
set_option maxRecDepth 100000 in
theorem T_X6_step_J44 {g : GG} {l : Launch} (hl : l.stackTraces = false) {S' : Mem} {r : Int32}  : ∀ (v0 : Nat) (v1 : Int32) (v2 : Int32) (v3 : Int32) (S : Mem), F_X6_step_J44 v0 v1 v2 v3 S = some (r, S') → Run g l uX6_step (fin g uX6_step (cvI r) S') 44 [(0, .ref v0), (1, .int v1), (2, .int v2), (3, .int v3)] [] 0 0 S := by
  intro v0 v1 v2 v3 S h
  unfold F_X6_step_J44 at h
  refine r_iconst (v := (0 : Int32)) dX6_step_44 (by decide) ?_
  exact T_X6_step_J45 hl v0 v1 v2 v3 (0 : Int32) S h

def F_X6_step_J40 (v0 : Nat) (v1 : Int32) (v2 : Int32) (v3 : Int32) (S : Mem) : Option (Int32 × Mem) :=
    F_X6_step_J45 v0 v1 v2 v3 (1 : Int32) S
set_option maxRecDepth 100000 in
theorem T_X6_step_J40 {g : GG} {l : Launch} (hl : l.stackTraces = false) {S' : Mem} {r : Int32}  : ∀ (v0 : Nat) (v1 : Int32) (v2 : Int32) (v3 : Int32) (S : Mem), F_X6_step_J40 v0 v1 v2 v3 S = some (r, S') → Run g l uX6_step (fin g uX6_step (cvI r) S') 40 [(0, .ref v0), (1, .int v1), (2, .int v2), (3, .int v3)] [] 0 0 S := by
  intro v0 v1 v2 v3 S h
  unfold F_X6_step_J40 at h
  refine r_iconst (v := (1 : Int32)) dX6_step_40 (by decide) ?_
  refine r_goto (tgt := 45) dX6_step_41 (by decide) ?_
  exact T_X6_step_J45 hl v0 v1 v2 v3 (1 : Int32) S h

def F_X6_step_J21 (v0 : Nat) (v1 : Int32) (v2 : Int32) (s0 : Int32) (S : Mem) : Option (Int32 × Mem) :=
    (pk 6 S v0).bind fun _ =>
    bd2 (F_X6_same v0 v1 (0 : Int32) S) fun t36 S37 =>
    if t36 = 0 then
      F_X6_step_J44 v0 v1 v2 s0 S37
    else
      if s0 = 0 then
        if v2 ≤ (1 : Int32) then
          F_X6_step_J44 v0 v1 v2 s0 S37
        else
          F_X6_step_J40 v0 v1 v2 s0 S37
      else
        F_X6_step_J40 v0 v1 v2 s0 S37
set_option maxRecDepth 100000 in
theorem T_X6_step_J21 {g : GG} {l : Launch} (hl : l.stackTraces = false) {S' : Mem} {r : Int32}  : ∀ (v0 : Nat) (v1 : Int32) (v2 : Int32) (s0 : Int32) (S : Mem), F_X6_step_J21 v0 v1 v2 s0 S = some (r, S') → Run g l uX6_step (fin g uX6_step (cvI r) S') 21 [(0, .ref v0), (1, .int v1), (2, .int v2)] [.int s0] 0 0 S := by
  intro v0 v1 v2 s0 S h
  unfold F_X6_step_J21 at h
  refine r_istore_n (lv' := [(3, .int s0), (0, .ref v0), (1, .int v1), (2, .int v2)]) dX6_step_21 rfl (by decide) rfl ?_
  refine r_aload_n dX6_step_22 rfl 1 rfl ?_
  refine r_iload_n dX6_step_23 rfl 2 rfl ?_
  refine r_iconst (v := (0 : Int32)) dX6_step_24 (by decide) ?_
  obtain ⟨z35, hk, h⟩ := bd h
  obtain ⟨t36, S37, h0, h⟩ := bd2_s h
  refine r_invV (As := [.int v1, .int ((0 : Int32))]) (st := []) dX6_step_25 lv6_94 (by unfold RM; decide) (Nat.le_of_ble_eq_true rfl) rfl rfl (pk_ok hk) (T_X6_same hl h0) ?_
  refine r_if_eq (tgt := 44) dX6_step_28 (by decide) (fun c38 => ?_) (fun c38 => ?_)
  · rw [if_pos c38] at h
    refine r_sub [1, 2, 3, 0] rfl ?_
    exact T_X6_step_J44 hl v0 v1 v2 s0 S37 h
  · rw [if_neg c38] at h
    refine r_iload_n dX6_step_31 rfl 0 rfl ?_
    refine r_if_ne (tgt := 40) dX6_step_32 (by decide) (fun c39 => ?_) (fun c39 => ?_)
    · rw [if_neg c39] at h
      refine r_sub [1, 2, 3, 0] rfl ?_
      exact T_X6_step_J40 hl v0 v1 v2 s0 S37 h
    · rw [if_pos c39] at h
      refine r_iload_n dX6_step_35 rfl 3 rfl ?_
      refine r_iconst (v := (1 : Int32)) dX6_step_36 (by decide) ?_
      refine r_icmp_le (tgt := 44) dX6_step_37 (by decide) (fun c40 => ?_) (fun c40 => ?_)
      · rw [if_pos c40] at h
        refine r_sub [1, 2, 3, 0] rfl ?_
        exact T_X6_step_J44 hl v0 v1 v2 s0 S37 h
      · rw [if_neg c40] at h
        refine r_sub [1, 2, 3, 0] rfl ?_
        exact T_X6_step_J40 hl v0 v1 v2 s0 S37 h

def F_X6_step (v0 : Nat) (v1 : Int32) (S : Mem) : Option (Int32 × Mem) :=
    (pk 6 S v0).bind fun _ =>
    bd2 (F_X6_get v0 v1 (0 : Int32) S) fun t42 S43 =>
    (pk 6 S43 v0).bind fun _ =>
    bd2 (F_X6_shortest v0 v1 S43) fun t45 S46 =>
    if t45 ≤ (1 : Int32) then
      F_X6_step_J21 v0 v1 t42 (0 : Int32) S46
    else
      F_X6_step_J21 v0 v1 t42 (1 : Int32) S46
set_option maxRecDepth 100000 in
theorem T_X6_step {g : GG} {l : Launch} (hl : l.stackTraces = false) {v0 : Nat} {v1 : Int32} {S S' : Mem} {r : Int32} (h : F_X6_step v0 v1 S = some (r, S')) : Call g l uX6_step [.ref v0, .int v1] S (cvI r) S' := by
  refine call_of (by decide +kernel) hl rfl (Nat.le_of_ble_eq_true rfl) ?_
  show Run g l uX6_step _ 0 [(0, .ref v0), (1, .int v1)] [] 0 0 S
  unfold F_X6_step at h
  refine r_aload_n dX6_step_0 rfl 0 rfl ?_
  refine r_iload_n dX6_step_1 rfl 1 rfl ?_
  refine r_iconst (v := (0 : Int32)) dX6_step_2 (by decide) ?_
  obtain ⟨z41, hk, h⟩ := bd h
  obtain ⟨t42, S43, h0, h⟩ := bd2_s h
  refine r_invV (As := [.int v1, .int ((0 : Int32))]) (st := []) dX6_step_3 lv6_33 (by unfold RM; decide) (Nat.le_of_ble_eq_true rfl) rfl rfl (pk_ok hk) (T_X6_get hl h0) ?_
  refine r_istore_n (lv' := [(2, .int t42), (0, .ref v0), (1, .int v1)]) dX6_step_6 rfl (by decide) rfl ?_
  refine r_aload_n dX6_step_7 rfl 1 rfl ?_
  refine r_iload_n dX6_step_8 rfl 2 rfl ?_
  obtain ⟨z44, hk, h⟩ := bd h
  obtain ⟨t45, S46, h0, h⟩ := bd2_s h
  refine r_invV (As := [.int v1]) (st := []) dX6_step_9 lv6_91 (by unfold RM; decide) (Nat.le_of_ble_eq_true rfl) rfl rfl (pk_ok hk) (T_X6_shortest hl h0) ?_
  refine r_iconst (v := (1 : Int32)) dX6_step_12 (by decide) ?_
  refine r_icmp_le (tgt := 20) dX6_step_13 (by decide) (fun c47 => ?_) (fun c47 => ?_)
  · rw [if_pos c47] at h
    refine r_iconst (v := (0 : Int32)) dX6_step_20 (by decide) ?_
    refine r_sub [1, 2, 0] rfl ?_
    exact T_X6_step_J21 hl v0 v1 t42 (0 : Int32) S46 h
  · rw [if_neg c47] at h
    refine r_iconst (v := (1 : Int32)) dX6_step_16 (by decide) ?_
    refine r_goto (tgt := 21) dX6_step_17 (by decide) ?_
    refine r_sub [1, 2, 0] rfl ?_
    exact T_X6_step_J21 hl v0 v1 t42 (1 : Int32) S46 h

def F_X6_normalise_L27 : Nat → Nat → Int32 → Int32 → Mem → Option (Int32 × Mem)
  | 0, _, _, _, _ => none
  | fu + 1, v0, v1, v2, S =>
    if v2 = 0 then
      (pk 6 S v0).bind fun _ =>
      (F_X6_close v0 v1 S).bind fun S4 =>
      (pk 6 S4 v0).bind fun _ =>
      bd2 (F_X6_enter v0 (25 : Int32) S4) fun t6 S7 =>
      some (t6, S7)
    else
      (pk 6 S v0).bind fun _ =>
      bd2 (F_X6_step v0 (25 : Int32) S) fun t9 S10 =>
      F_X6_normalise_L27 fu v0 v1 t9 S10
set_option maxRecDepth 100000 in
theorem T_X6_normalise_L27 {g : GG} {l : Launch} (hl : l.stackTraces = false) {S' : Mem} {r : Int32}  : ∀ (fu : Nat) (v0 : Nat) (v1 : Int32) (v2 : Int32) (S : Mem), F_X6_normalise_L27 fu v0 v1 v2 S = some (r, S') → Run g l uX6_normalise (fin g uX6_normalise (cvI r) S') 27 [(0, .ref v0), (1, .int v1), (2, .int v2)] [] 0 0 S := by
  intro fu
  induction fu with
  | zero =>
    intro v0 v1 v2 S h
    cases (show none = some _ from h)
  | succ fu ih =>
    intro v0 v1 v2 S h
    unfold F_X6_normalise_L27 at h
    refine r_iload_n dX6_normalise_27 rfl 2 rfl ?_
    refine r_if_eq (tgt := 41) dX6_normalise_28 (by decide) (fun c1 => ?_) (fun c1 => ?_)
    · rw [if_pos c1] at h
      refine r_aload_n dX6_normalise_41 rfl 0 rfl ?_
      refine r_iload_n dX6_normalise_42 rfl 1 rfl ?_
      obtain ⟨z2, hk, h⟩ := bd h
      obtain ⟨S4, h0, h⟩ := bd h
      refine r_invV (As := [.int v1]) (st := []) dX6_normalise_43 lv6_84 (by unfold RM; decide) (Nat.le_of_ble_eq_true rfl) rfl rfl (pk_ok hk) (T_X6_close hl h0) ?_
      refine r_aload_n dX6_normalise_46 rfl 0 rfl ?_
      refine r_bipush (v := (25 : Int32)) dX6_normalise_47 (by decide) ?_
      obtain ⟨z5, hk, h⟩ := bd h
      obtain ⟨t6, S7, h0, h⟩ := bd2_s h
      refine r_invV (As := [.int ((25 : Int32))]) (st := []) dX6_normalise_49 lv6_74 (by unfold RM; decide) (Nat.le_of_ble_eq_true rfl) rfl rfl (pk_ok hk) (T_X6_enter hl h0) ?_
      cases h
      exact r_ireturn dX6_normalise_52 rfl rfl (by decide) (by decide)
    · rw [if_neg c1] at h
      refine r_aload_n dX6_normalise_31 rfl 0 rfl ?_
      refine r_bipush (v := (25 : Int32)) dX6_normalise_32 (by decide) ?_
      obtain ⟨z8, hk, h⟩ := bd h
      obtain ⟨t9, S10, h0, h⟩ := bd2_s h
      refine r_invV (As := [.int ((25 : Int32))]) (st := []) dX6_normalise_34 lv6_98 (by unfold RM; decide) (Nat.le_of_ble_eq_true rfl) rfl rfl (pk_ok hk) (T_X6_step hl h0) ?_
      refine r_istore_n (lv' := [(2, .int t9), (0, .ref v0), (1, .int v1)]) dX6_normalise_37 rfl (by decide) rfl ?_
      refine r_goto (tgt := 27) dX6_normalise_38 (by decide) ?_
      refine r_sub [1, 2, 0] rfl ?_
      exact ih v0 v1 t9 S10 h

def F_X6_normalise (v0 : Nat) (v1 : Int32) (S : Mem) : Option (Int32 × Mem) :=
    (pgI 6 4 S v0).bind fun t11 =>
    bd2 (F_X6_out v1 t11 S) fun t12 S13 =>
    (pk 6 S13 v0).bind fun _ =>
    bd2 (F_X6_throwing v0 t12 (0 : Int32) S13) fun t15 S16 =>
    if t15 = 0 then
      (pk 6 S16 v0).bind fun _ =>
      (F_X6_copy v0 v1 (25 : Int32) S16).bind fun S20 =>
      F_X6_normalise_L27 FU v0 v1 (1 : Int32) S20
    else
      some ((0 : Int32), S16)
set_option maxRecDepth 100000 in
theorem T_X6_normalise {g : GG} {l : Launch} (hl : l.stackTraces = false) {v0 : Nat} {v1 : Int32} {S S' : Mem} {r : Int32} (h : F_X6_normalise v0 v1 S = some (r, S')) : Call g l uX6_normalise [.ref v0, .int v1] S (cvI r) S' := by
  refine call_of (by decide +kernel) hl rfl (Nat.le_of_ble_eq_true rfl) ?_
  show Run g l uX6_normalise _ 0 [(0, .ref v0), (1, .int v1)] [] 0 0 S
  unfold F_X6_normalise at h
  refine r_aload_n dX6_normalise_0 rfl 0 rfl ?_
  refine r_iload_n dX6_normalise_1 rfl 1 rfl ?_
  refine r_aload_n dX6_normalise_2 rfl 0 rfl ?_
  obtain ⟨t11, h0, h⟩ := bd h
  refine q_getI h0 dX6_normalise_3 fl6_44 rfl ?_
  obtain ⟨t12, S13, h0, h⟩ := bd2_s h
  refine r_invS (As := [.int v1, .int t11]) (st := [.ref v0]) dX6_normalise_6 ls6_67 (by unfold RM; decide) (Nat.le_of_ble_eq_true rfl) rfl rfl (T_X6_out hl h0) ?_
  refine r_iconst (v := (0 : Int32)) dX6_normalise_9 (by decide) ?_
  obtain ⟨z14, hk, h⟩ := bd h
  obtain ⟨t15, S16, h0, h⟩ := bd2_s h
  refine r_invV (As := [.int t12, .int ((0 : Int32))]) (st := []) dX6_normalise_10 lv6_47 (by unfold RM; decide) (Nat.le_of_ble_eq_true rfl) rfl rfl (pk_ok hk) (T_X6_throwing hl h0) ?_
  refine r_if_eq (tgt := 18) dX6_normalise_13 (by decide) (fun c17 => ?_) (fun c17 => ?_)
  · rw [if_pos c17] at h
    refine r_aload_n dX6_normalise_18 rfl 0 rfl ?_
    refine r_iload_n dX6_normalise_19 rfl 1 rfl ?_
    refine r_bipush (v := (25 : Int32)) dX6_normalise_20 (by decide) ?_
    obtain ⟨z18, hk, h⟩ := bd h
    obtain ⟨S20, h0, h⟩ := bd h
    refine r_invV (As := [.int v1, .int ((25 : Int32))]) (st := []) dX6_normalise_22 lv6_81 (by unfold RM; decide) (Nat.le_of_ble_eq_true rfl) rfl rfl (pk_ok hk) (T_X6_copy hl h0) ?_
    refine r_iconst (v := (1 : Int32)) dX6_normalise_25 (by decide) ?_
    refine r_istore_n (lv' := [(2, .int ((1 : Int32))), (0, .ref v0), (1, .int v1)]) dX6_normalise_26 rfl (by decide) rfl ?_
    refine r_sub [1, 2, 0] rfl ?_
    exact T_X6_normalise_L27 hl FU v0 v1 (1 : Int32) S20 h
  · rw [if_neg c17] at h
    refine r_iconst (v := (0 : Int32)) dX6_normalise_16 (by decide) ?_
    cases h
    exact r_ireturn dX6_normalise_17 rfl rfl (by decide) (by decide)

def F_X6_part_J165 (K103 : Nat → Int32 → Int32 → Int32 → Mem → Option Mem) (K111 : Nat → Int32 → Int32 → Int32 → Int32 → Mem → Option Mem) (v0 : Nat) (v1 : Int32) (v2 : Int32) (v3 : Int32) (v4 : Int32) (s0 : Nat) (s1 : Int32) (s2 : Int32) (s3 : Int32) (S : Mem) : Option Mem :=
    (pk 6 S s0).bind fun _ =>
    (F_X6_put s0 s1 s2 s3 S).bind fun S3 =>
    K111 v0 v1 v2 v3 (v4 + 1) S3
set_option maxRecDepth 100000 in
theorem T_X6_part_J165 {g : GG} {l : Launch} (hl : l.stackTraces = false) {S' : Mem}  {K103 : Nat → Int32 → Int32 → Int32 → Mem → Option Mem} {K111 : Nat → Int32 → Int32 → Int32 → Int32 → Mem → Option Mem} (hK103 : ∀ (v0 : Nat) (v1 : Int32) (v2 : Int32) (v3 : Int32) (S : Mem), K103 v0 v1 v2 v3 S = some S' → Run g l uX6_part (fin g uX6_part cvV S') 103 [(0, .ref v0), (1, .int v1), (2, .int v2), (3, .int v3)] [] 0 0 S) (hK111 : ∀ (v0 : Nat) (v1 : Int32) (v2 : Int32) (v3 : Int32) (v4 : Int32) (S : Mem), K111 v0 v1 v2 v3 v4 S = some S' → Run g l uX6_part (fin g uX6_part cvV S') 111 [(0, .ref v0), (1, .int v1), (2, .int v2), (3, .int v3), (4, .int v4)] [] 0 0 S) : ∀ (v0 : Nat) (v1 : Int32) (v2 : Int32) (v3 : Int32) (v4 : Int32) (s0 : Nat) (s1 : Int32) (s2 : Int32) (s3 : Int32) (S : Mem), F_X6_part_J165 K103 K111 v0 v1 v2 v3 v4 s0 s1 s2 s3 S = some S' → Run g l uX6_part (fin g uX6_part cvV S') 165 [(0, .ref v0), (1, .int v1), (2, .int v2), (3, .int v3), (4, .int v4)] [.int s3, .int s2, .int s1, .ref s0] 0 0 S := by
  intro v0 v1 v2 v3 v4 s0 s1 s2 s3 S h
  unfold F_X6_part_J165 at h
  obtain ⟨z1, hk, h⟩ := bd h
  obtain ⟨S3, h0, h⟩ := bd h
  refine r_invV (As := [.int s1, .int s2, .int s3]) (st := []) dX6_part_165 lv6_29 (by unfold RM; decide) (Nat.le_of_ble_eq_true rfl) rfl rfl (pk_ok hk) (T_X6_put hl h0) ?_
  refine r_iinc (v := v4 + 1) (lv' := [(4, .int (v4 + 1)), (0, .ref v0), (1, .int v1), (2, .int v2), (3, .int v3)]) dX6_part_168 4 rfl rfl (by decide) rfl ?_
  refine r_goto (tgt := 111) dX6_part_171 (by decide) ?_
  refine r_sub [1, 2, 3, 4, 0] rfl ?_
  exact hK111 v0 v1 v2 v3 (v4 + 1) S3 h

def F_X6_part_L111 (K103 : Nat → Int32 → Int32 → Int32 → Mem → Option Mem) : Nat → Nat → Int32 → Int32 → Int32 → Int32 → Mem → Option Mem
  | 0, _, _, _, _, _, _ => none
  | fu + 1, v0, v1, v2, v3, v4, S =>
    if (2 : Int32) ≤ v4 then
      (pk 6 S v0).bind fun _ =>
      bd2 (F_X6_get v0 v1 (((15 : Int32) + ((3 : Int32) * v3)) + (2 : Int32)) S) fun t6 S7 =>
      (pk 6 S7 v0).bind fun _ =>
      (F_X6_put v0 (25 : Int32) (((15 : Int32) + ((3 : Int32) * v3)) + (2 : Int32)) t6 S7).bind fun S10 =>
      (pk 6 S10 v0).bind fun _ =>
      bd2 (F_X6_get v0 v1 ((21 : Int32) + ((10 : Int32) * v3)) S10) fun t12 S13 =>
      (pk 6 S13 v0).bind fun _ =>
      (F_X6_put v0 (25 : Int32) ((21 : Int32) + ((10 : Int32) * v3)) t12 S13).bind fun S16 =>
      bd2 (F_X6_pair (0 : Int32) v2 S16) fun t17 S18 =>
      (pk 6 S18 v0).bind fun _ =>
      bd2 (F_X6_get v0 v1 (((21 : Int32) + ((10 : Int32) * v3)) + t17) S18) fun t20 S21 =>
      (pk 6 S21 v0).bind fun _ =>
      (F_X6_put v0 (25 : Int32) (((21 : Int32) + ((10 : Int32) * v3)) + (1 : Int32)) t20 S21).bind fun S24 =>
      bd2 (F_X6_pair v2 v2 S24) fun t25 S26 =>
      (pk 6 S26 v0).bind fun _ =>
      bd2 (F_X6_get v0 v1 (((21 : Int32) + ((10 : Int32) * v3)) + t25) S26) fun t28 S29 =>
      (pk 6 S29 v0).bind fun _ =>
      (F_X6_put v0 (25 : Int32) (((21 : Int32) + ((10 : Int32) * v3)) + (2 : Int32)) t28 S29).bind fun S32 =>
      K103 v0 v1 v2 (v3 + 1) S32
    else
      (pk 6 S v0).bind fun _ =>
      bd2 (F_X6_get v0 v1 (((15 : Int32) + ((3 : Int32) * v3)) + v4) S) fun t34 S35 =>
      if 0 ≤ t34 then
        if t34 = v2 then
          F_X6_part_J165 K103 (F_X6_part_L111 K103 fu) v0 v1 v2 v3 v4 v0 (25 : Int32) (((15 : Int32) + ((3 : Int32) * v3)) + v4) (1 : Int32) S35
        else
          F_X6_part_J165 K103 (F_X6_part_L111 K103 fu) v0 v1 v2 v3 v4 v0 (25 : Int32) (((15 : Int32) + ((3 : Int32) * v3)) + v4) (0 : Int32) S35
      else
        F_X6_part_J165 K103 (F_X6_part_L111 K103 fu) v0 v1 v2 v3 v4 v0 (25 : Int32) (((15 : Int32) + ((3 : Int32) * v3)) + v4) (-1 : Int32) S35
set_option maxRecDepth 100000 in
theorem T_X6_part_L111 {g : GG} {l : Launch} (hl : l.stackTraces = false) {S' : Mem}  {K103 : Nat → Int32 → Int32 → Int32 → Mem → Option Mem} (hK103 : ∀ (v0 : Nat) (v1 : Int32) (v2 : Int32) (v3 : Int32) (S : Mem), K103 v0 v1 v2 v3 S = some S' → Run g l uX6_part (fin g uX6_part cvV S') 103 [(0, .ref v0), (1, .int v1), (2, .int v2), (3, .int v3)] [] 0 0 S) : ∀ (fu : Nat) (v0 : Nat) (v1 : Int32) (v2 : Int32) (v3 : Int32) (v4 : Int32) (S : Mem), F_X6_part_L111 K103 fu v0 v1 v2 v3 v4 S = some S' → Run g l uX6_part (fin g uX6_part cvV S') 111 [(0, .ref v0), (1, .int v1), (2, .int v2), (3, .int v3), (4, .int v4)] [] 0 0 S := by
  intro fu
  induction fu with
  | zero =>
    intro v0 v1 v2 v3 v4 S h
    cases (show none = some _ from h)
  | succ fu ih =>
    intro v0 v1 v2 v3 v4 S h
    unfold F_X6_part_L111 at h
    refine r_iload dX6_part_111 4 rfl ?_
    refine r_iconst (v := (2 : Int32)) dX6_part_113 (by decide) ?_
    refine r_icmp_ge (tgt := 174) dX6_part_114 (by decide) (fun c4 => ?_) (fun c4 => ?_)
    · rw [if_pos c4] at h
      refine r_aload_n dX6_part_174 rfl 0 rfl ?_
      refine r_bipush (v := (25 : Int32)) dX6_part_175 (by decide) ?_
      refine r_bipush (v := (15 : Int32)) dX6_part_177 (by decide) ?_
      refine r_iconst (v := (3 : Int32)) dX6_part_179 (by decide) ?_
      refine r_iload_n dX6_part_180 rfl 3 rfl ?_
      refine r_imul dX6_part_181 ?_
      refine r_iadd dX6_part_182 ?_
      refine r_iconst (v := (2 : Int32)) dX6_part_183 (by decide) ?_
      refine r_iadd dX6_part_184 ?_
      refine r_aload_n dX6_part_185 rfl 0 rfl ?_
      refine r_iload_n dX6_part_186 rfl 1 rfl ?_
      refine r_bipush (v := (15 : Int32)) dX6_part_187 (by decide) ?_
      refine r_iconst (v := (3 : Int32)) dX6_part_189 (by decide) ?_
      refine r_iload_n dX6_part_190 rfl 3 rfl ?_
      refine r_imul dX6_part_191 ?_
      refine r_iadd dX6_part_192 ?_
      refine r_iconst (v := (2 : Int32)) dX6_part_193 (by decide) ?_
      refine r_iadd dX6_part_194 ?_
      obtain ⟨z5, hk, h⟩ := bd h
      obtain ⟨t6, S7, h0, h⟩ := bd2_s h
      refine r_invV (As := [.int v1, .int (((15 : Int32) + ((3 : Int32) * v3)) + (2 : Int32))]) (st := [.int (((15 : Int32) + ((3 : Int32) * v3)) + (2 : Int32)), .int ((25 : Int32)), .ref v0]) dX6_part_195 lv6_33 (by unfold RM; decide) (Nat.le_of_ble_eq_true rfl) rfl rfl (pk_ok hk) (T_X6_get hl h0) ?_
      obtain ⟨z8, hk, h⟩ := bd h
      obtain ⟨S10, h0, h⟩ := bd h
      refine r_invV (As := [.int ((25 : Int32)), .int (((15 : Int32) + ((3 : Int32) * v3)) + (2 : Int32)), .int t6]) (st := []) dX6_part_198 lv6_29 (by unfold RM; decide) (Nat.le_of_ble_eq_true rfl) rfl rfl (pk_ok hk) (T_X6_put hl h0) ?_
      refine r_bipush (v := (21 : Int32)) dX6_part_201 (by decide) ?_
      refine r_bipush (v := (10 : Int32)) dX6_part_203 (by decide) ?_
      refine r_iload_n dX6_part_205 rfl 3 rfl ?_
      refine r_imul dX6_part_206 ?_
      refine r_iadd dX6_part_207 ?_
      refine r_istore (lv' := [(4, .int ((21 : Int32) + ((10 : Int32) * v3))), (0, .ref v0), (1, .int v1), (2, .int v2), (3, .int v3)]) dX6_part_208 (by decide) rfl ?_
      refine r_aload_n dX6_part_210 rfl 1 rfl ?_
      refine r_bipush (v := (25 : Int32)) dX6_part_211 (by decide) ?_
      refine r_iload dX6_part_213 0 rfl ?_
      refine r_aload_n dX6_part_215 rfl 1 rfl ?_
      refine r_iload_n dX6_part_216 rfl 2 rfl ?_
      refine r_iload dX6_part_217 0 rfl ?_
      obtain ⟨z11, hk, h⟩ := bd h
      obtain ⟨t12, S13, h0, h⟩ := bd2_s h
      refine r_invV (As := [.int v1, .int ((21 : Int32) + ((10 : Int32) * v3))]) (st := [.int ((21 : Int32) + ((10 : Int32) * v3)), .int ((25 : Int32)), .ref v0]) dX6_part_219 lv6_33 (by unfold RM; decide) (Nat.le_of_ble_eq_true rfl) rfl rfl (pk_ok hk) (T_X6_get hl h0) ?_
      obtain ⟨z14, hk, h⟩ := bd h
      obtain ⟨S16, h0, h⟩ := bd h
      refine r_invV (As := [.int ((25 : Int32)), .int ((21 : Int32) + ((10 : Int32) * v3)), .int t12]) (st := []) dX6_part_222 lv6_29 (by unfold RM; decide) (Nat.le_of_ble_eq_true rfl) rfl rfl (pk_ok hk) (T_X6_put hl h0) ?_
      refine r_aload_n dX6_part_225 rfl 1 rfl ?_
      refine r_bipush (v := (25 : Int32)) dX6_part_226 (by decide) ?_
      refine r_iload dX6_part_228 0 rfl ?_
      refine r_iconst (v := (1 : Int32)) dX6_part_230 (by decide) ?_
      refine r_iadd dX6_part_231 ?_
      refine r_aload_n dX6_part_232 rfl 1 rfl ?_
      refine r_iload_n dX6_part_233 rfl 2 rfl ?_
      refine r_iload dX6_part_234 0 rfl ?_
      refine r_iconst (v := (0 : Int32)) dX6_part_236 (by decide) ?_
      refine r_iload_n dX6_part_237 rfl 3 rfl ?_
      obtain ⟨t17, S18, h0, h⟩ := bd2_s h
      refine r_invS (As := [.int ((0 : Int32)), .int v2]) (st := [.int ((21 : Int32) + ((10 : Int32) * v3)), .int v1, .ref v0, .int (((21 : Int32) + ((10 : Int32) * v3)) + (1 : Int32)), .int ((25 : Int32)), .ref v0]) dX6_part_238 ls6_102 (by unfold RM; decide) (Nat.le_of_ble_eq_true rfl) rfl rfl (T_X6_pair hl h0) ?_
      refine r_iadd dX6_part_241 ?_
      obtain ⟨z19, hk, h⟩ := bd h
      obtain ⟨t20, S21, h0, h⟩ := bd2_s h
      refine r_invV (As := [.int v1, .int (((21 : Int32) + ((10 : Int32) * v3)) + t17)]) (st := [.int (((21 : Int32) + ((10 : Int32) * v3)) + (1 : Int32)), .int ((25 : Int32)), .ref v0]) dX6_part_242 lv6_33 (by unfold RM; decide) (Nat.le_of_ble_eq_true rfl) rfl rfl (pk_ok hk) (T_X6_get hl h0) ?_
      obtain ⟨z22, hk, h⟩ := bd h
      obtain ⟨S24, h0, h⟩ := bd h
      refine r_invV (As := [.int ((25 : Int32)), .int (((21 : Int32) + ((10 : Int32) * v3)) + (1 : Int32)), .int t20]) (st := []) dX6_part_245 lv6_29 (by unfold RM; decide) (Nat.le_of_ble_eq_true rfl) rfl rfl (pk_ok hk) (T_X6_put hl h0) ?_
      refine r_aload_n dX6_part_248 rfl 1 rfl ?_
      refine r_bipush (v := (25 : Int32)) dX6_part_249 (by decide) ?_
      refine r_iload dX6_part_251 0 rfl ?_
      refine r_iconst (v := (2 : Int32)) dX6_part_253 (by decide) ?_
      refine r_iadd dX6_part_254 ?_
      refine r_aload_n dX6_part_255 rfl 1 rfl ?_
      refine r_iload_n dX6_part_256 rfl 2 rfl ?_
      refine r_iload dX6_part_257 0 rfl ?_
      refine r_iload_n dX6_part_259 rfl 3 rfl ?_
      refine r_iload_n dX6_part_260 rfl 3 rfl ?_
      obtain ⟨t25, S26, h0, h⟩ := bd2_s h
      refine r_invS (As := [.int v2, .int v2]) (st := [.int ((21 : Int32) + ((10 : Int32) * v3)), .int v1, .ref v0, .int (((21 : Int32) + ((10 : Int32) * v3)) + (2 : Int32)), .int ((25 : Int32)), .ref v0]) dX6_part_261 ls6_102 (by unfold RM; decide) (Nat.le_of_ble_eq_true rfl) rfl rfl (T_X6_pair hl h0) ?_
      refine r_iadd dX6_part_264 ?_
      obtain ⟨z27, hk, h⟩ := bd h
      obtain ⟨t28, S29, h0, h⟩ := bd2_s h
      refine r_invV (As := [.int v1, .int (((21 : Int32) + ((10 : Int32) * v3)) + t25)]) (st := [.int (((21 : Int32) + ((10 : Int32) * v3)) + (2 : Int32)), .int ((25 : Int32)), .ref v0]) dX6_part_265 lv6_33 (by unfold RM; decide) (Nat.le_of_ble_eq_true rfl) rfl rfl (pk_ok hk) (T_X6_get hl h0) ?_
      obtain ⟨z30, hk, h⟩ := bd h
      obtain ⟨S32, h0, h⟩ := bd h
      refine r_invV (As := [.int ((25 : Int32)), .int (((21 : Int32) + ((10 : Int32) * v3)) + (2 : Int32)), .int t28]) (st := []) dX6_part_268 lv6_29 (by unfold RM; decide) (Nat.le_of_ble_eq_true rfl) rfl rfl (pk_ok hk) (T_X6_put hl h0) ?_
      refine r_iinc (v := v3 + 1) (lv' := [(3, .int (v3 + 1)), (4, .int ((21 : Int32) + ((10 : Int32) * v3))), (0, .ref v0), (1, .int v1), (2, .int v2)]) dX6_part_271 4 rfl rfl (by decide) rfl ?_
      refine r_goto (tgt := 103) dX6_part_274 (by decide) ?_
      refine r_sub [2, 3, 4, 0] rfl ?_
      exact hK103 v0 v1 v2 (v3 + 1) S32 h
    · rw [if_neg c4] at h
      refine r_aload_n dX6_part_117 rfl 0 rfl ?_
      refine r_iload_n dX6_part_118 rfl 1 rfl ?_
      refine r_bipush (v := (15 : Int32)) dX6_part_119 (by decide) ?_
      refine r_iconst (v := (3 : Int32)) dX6_part_121 (by decide) ?_
      refine r_iload_n dX6_part_122 rfl 3 rfl ?_
      refine r_imul dX6_part_123 ?_
      refine r_iadd dX6_part_124 ?_
      refine r_iload dX6_part_125 4 rfl ?_
      refine r_iadd dX6_part_127 ?_
      obtain ⟨z33, hk, h⟩ := bd h
      obtain ⟨t34, S35, h0, h⟩ := bd2_s h
      refine r_invV (As := [.int v1, .int (((15 : Int32) + ((3 : Int32) * v3)) + v4)]) (st := []) dX6_part_128 lv6_33 (by unfold RM; decide) (Nat.le_of_ble_eq_true rfl) rfl rfl (pk_ok hk) (T_X6_get hl h0) ?_
      refine r_istore (lv' := [(5, .int t34), (0, .ref v0), (1, .int v1), (2, .int v2), (3, .int v3), (4, .int v4)]) dX6_part_131 (by decide) rfl ?_
      refine r_aload_n dX6_part_133 rfl 1 rfl ?_
      refine r_bipush (v := (25 : Int32)) dX6_part_134 (by decide) ?_
      refine r_bipush (v := (15 : Int32)) dX6_part_136 (by decide) ?_
      refine r_iconst (v := (3 : Int32)) dX6_part_138 (by decide) ?_
      refine r_iload_n dX6_part_139 rfl 4 rfl ?_
      refine r_imul dX6_part_140 ?_
      refine r_iadd dX6_part_141 ?_
      refine r_iload dX6_part_142 5 rfl ?_
      refine r_iadd dX6_part_144 ?_
      refine r_iload dX6_part_145 0 rfl ?_
      refine r_if_ge (tgt := 154) dX6_part_147 (by decide) (fun c36 => ?_) (fun c36 => ?_)
      · rw [if_pos c36] at h
        refine r_iload dX6_part_154 0 rfl ?_
        refine r_iload_n dX6_part_156 rfl 3 rfl ?_
        refine r_icmp_ne (tgt := 164) dX6_part_157 (by decide) (fun c37 => ?_) (fun c37 => ?_)
        · rw [if_neg c37] at h
          refine r_iconst (v := (0 : Int32)) dX6_part_164 (by decide) ?_
          refine r_sub [1, 2, 3, 4, 5] rfl ?_
          exact T_X6_part_J165 hl hK103 (fun v0 v1 v2 v3 v4 S h => ih v0 v1 v2 v3 v4 S h) v0 v1 v2 v3 v4 v0 (25 : Int32) (((15 : Int32) + ((3 : Int32) * v3)) + v4) (0 : Int32) S35 h
        · rw [if_pos c37] at h
          refine r_iconst (v := (1 : Int32)) dX6_part_160 (by decide) ?_
          refine r_goto (tgt := 165) dX6_part_161 (by decide) ?_
          refine r_sub [1, 2, 3, 4, 5] rfl ?_
          exact T_X6_part_J165 hl hK103 (fun v0 v1 v2 v3 v4 S h => ih v0 v1 v2 v3 v4 S h) v0 v1 v2 v3 v4 v0 (25 : Int32) (((15 : Int32) + ((3 : Int32) * v3)) + v4) (1 : Int32) S35 h
      · rw [if_neg c36] at h
        refine r_iconst (v := (-1 : Int32)) dX6_part_150 (by decide) ?_
        refine r_goto (tgt := 165) dX6_part_151 (by decide) ?_
        refine r_sub [1, 2, 3, 4, 5] rfl ?_
        exact T_X6_part_J165 hl hK103 (fun v0 v1 v2 v3 v4 S h => ih v0 v1 v2 v3 v4 S h) v0 v1 v2 v3 v4 v0 (25 : Int32) (((15 : Int32) + ((3 : Int32) * v3)) + v4) (-1 : Int32) S35 h

def F_X6_part_L103 : Nat → Nat → Int32 → Int32 → Int32 → Mem → Option Mem
  | 0, _, _, _, _, _ => none
  | fu + 1, v0, v1, v2, v3, S =>
    if (2 : Int32) ≤ v3 then
      some S
    else
      F_X6_part_L111 (F_X6_part_L103 fu) FU v0 v1 v2 v3 (0 : Int32) S
set_option maxRecDepth 100000 in
theorem T_X6_part_L103 {g : GG} {l : Launch} (hl : l.stackTraces = false) {S' : Mem}  : ∀ (fu : Nat) (v0 : Nat) (v1 : Int32) (v2 : Int32) (v3 : Int32) (S : Mem), F_X6_part_L103 fu v0 v1 v2 v3 S = some S' → Run g l uX6_part (fin g uX6_part cvV S') 103 [(0, .ref v0), (1, .int v1), (2, .int v2), (3, .int v3)] [] 0 0 S := by
  intro fu
  induction fu with
  | zero =>
    intro v0 v1 v2 v3 S h
    cases (show none = some _ from h)
  | succ fu ih =>
    intro v0 v1 v2 v3 S h
    unfold F_X6_part_L103 at h
    refine r_iload_n dX6_part_103 rfl 3 rfl ?_
    refine r_iconst (v := (2 : Int32)) dX6_part_104 (by decide) ?_
    refine r_icmp_ge (tgt := 277) dX6_part_105 (by decide) (fun c38 => ?_) (fun c38 => ?_)
    · rw [if_pos c38] at h
      cases h
      exact r_return dX6_part_277 rfl (by decide) (by decide)
    · rw [if_neg c38] at h
      refine r_iconst (v := (0 : Int32)) dX6_part_108 (by decide) ?_
      refine r_istore (lv' := [(4, .int ((0 : Int32))), (0, .ref v0), (1, .int v1), (2, .int v2), (3, .int v3)]) dX6_part_109 (by decide) rfl ?_
      refine r_sub [1, 2, 3, 4, 0] rfl ?_
      exact T_X6_part_L111 hl (fun v0 v1 v2 v3 S h => ih v0 v1 v2 v3 S h) FU v0 v1 v2 v3 (0 : Int32) S h

def F_X6_part (v0 : Nat) (v1 : Int32) (v2 : Int32) (S : Mem) : Option Mem :=
    (pk 6 S v0).bind fun _ =>
    bd2 (F_X6_get v0 v1 (0 : Int32) S) fun t40 S41 =>
    (pk 6 S41 v0).bind fun _ =>
    (F_X6_empty v0 (25 : Int32) t40 S41).bind fun S44 =>
    (pk 6 S44 v0).bind fun _ =>
    bd2 (F_X6_get v0 v1 (2 : Int32) S44) fun t46 S47 =>
    (pk 6 S47 v0).bind fun _ =>
    bd2 (F_X6_get v0 v1 (6 : Int32) S47) fun t49 S50 =>
    (pk 6 S50 v0).bind fun _ =>
    (F_X6_addAllele v0 (25 : Int32) t46 t49 S50).bind fun S53 =>
    (pk 6 S53 v0).bind fun _ =>
    bd2 (F_X6_get v0 v1 ((2 : Int32) + v2) S53) fun t55 S56 =>
    (pk 6 S56 v0).bind fun _ =>
    bd2 (F_X6_get v0 v1 ((6 : Int32) + v2) S56) fun t58 S59 =>
    (pk 6 S59 v0).bind fun _ =>
    (F_X6_addAllele v0 (25 : Int32) t55 t58 S59).bind fun S62 =>
    (pk 6 S62 v0).bind fun _ =>
    bd2 (F_X6_get v0 v1 (10 : Int32) S62) fun t64 S65 =>
    (pk 6 S65 v0).bind fun _ =>
    (F_X6_put v0 (25 : Int32) (10 : Int32) t64 S65).bind fun S68 =>
    (pk 6 S68 v0).bind fun _ =>
    bd2 (F_X6_get v0 v1 (11 : Int32) S68) fun t70 S71 =>
    (pk 6 S71 v0).bind fun _ =>
    (F_X6_put v0 (25 : Int32) (11 : Int32) t70 S71).bind fun S74 =>
    (pk 6 S74 v0).bind fun _ =>
    bd2 (F_X6_get v0 v1 ((11 : Int32) + v2) S74) fun t76 S77 =>
    (pk 6 S77 v0).bind fun _ =>
    (F_X6_put v0 (25 : Int32) (12 : Int32) t76 S77).bind fun S80 =>
    F_X6_part_L103 FU v0 v1 v2 (0 : Int32) S80
set_option maxRecDepth 100000 in
theorem T_X6_part {g : GG} {l : Launch} (hl : l.stackTraces = false) {v0 : Nat} {v1 : Int32} {v2 : Int32} {S S' : Mem} (h : F_X6_part v0 v1 v2 S = some S') : Call g l uX6_part [.ref v0, .int v1, .int v2] S cvV S' := by
  refine call_of (by decide +kernel) hl rfl (Nat.le_of_ble_eq_true rfl) ?_
  show Run g l uX6_part _ 0 [(0, .ref v0), (1, .int v1), (2, .int v2)] [] 0 0 S
  unfold F_X6_part at h
  refine r_aload_n dX6_part_0 rfl 0 rfl ?_
  refine r_bipush (v := (25 : Int32)) dX6_part_1 (by decide) ?_
  refine r_aload_n dX6_part_3 rfl 0 rfl ?_
  refine r_iload_n dX6_part_4 rfl 1 rfl ?_
  refine r_iconst (v := (0 : Int32)) dX6_part_5 (by decide) ?_
  obtain ⟨z39, hk, h⟩ := bd h
  obtain ⟨t40, S41, h0, h⟩ := bd2_s h
  refine r_invV (As := [.int v1, .int ((0 : Int32))]) (st := [.int ((25 : Int32)), .ref v0]) dX6_part_6 lv6_33 (by unfold RM; decide) (Nat.le_of_ble_eq_true rfl) rfl rfl (pk_ok hk) (T_X6_get hl h0) ?_
  obtain ⟨z42, hk, h⟩ := bd h
  obtain ⟨S44, h0, h⟩ := bd h
  refine r_invV (As := [.int ((25 : Int32)), .int t40]) (st := []) dX6_part_9 lv6_53 (by unfold RM; decide) (Nat.le_of_ble_eq_true rfl) rfl rfl (pk_ok hk) (T_X6_empty hl h0) ?_
  refine r_aload_n dX6_part_12 rfl 0 rfl ?_
  refine r_bipush (v := (25 : Int32)) dX6_part_13 (by decide) ?_
  refine r_aload_n dX6_part_15 rfl 0 rfl ?_
  refine r_iload_n dX6_part_16 rfl 1 rfl ?_
  refine r_iconst (v := (2 : Int32)) dX6_part_17 (by decide) ?_
  obtain ⟨z45, hk, h⟩ := bd h
  obtain ⟨t46, S47, h0, h⟩ := bd2_s h
  refine r_invV (As := [.int v1, .int ((2 : Int32))]) (st := [.int ((25 : Int32)), .ref v0]) dX6_part_18 lv6_33 (by unfold RM; decide) (Nat.le_of_ble_eq_true rfl) rfl rfl (pk_ok hk) (T_X6_get hl h0) ?_
  refine r_aload_n dX6_part_21 rfl 0 rfl ?_
  refine r_iload_n dX6_part_22 rfl 1 rfl ?_
  refine r_bipush (v := (6 : Int32)) dX6_part_23 (by decide) ?_
  obtain ⟨z48, hk, h⟩ := bd h
  obtain ⟨t49, S50, h0, h⟩ := bd2_s h
  refine r_invV (As := [.int v1, .int ((6 : Int32))]) (st := [.int t46, .int ((25 : Int32)), .ref v0]) dX6_part_25 lv6_33 (by unfold RM; decide) (Nat.le_of_ble_eq_true rfl) rfl rfl (pk_ok hk) (T_X6_get hl h0) ?_
  obtain ⟨z51, hk, h⟩ := bd h
  obtain ⟨S53, h0, h⟩ := bd h
  refine r_invV (As := [.int ((25 : Int32)), .int t46, .int t49]) (st := []) dX6_part_28 lv6_60 (by unfold RM; decide) (Nat.le_of_ble_eq_true rfl) rfl rfl (pk_ok hk) (T_X6_addAllele hl h0) ?_
  refine r_aload_n dX6_part_31 rfl 0 rfl ?_
  refine r_bipush (v := (25 : Int32)) dX6_part_32 (by decide) ?_
  refine r_aload_n dX6_part_34 rfl 0 rfl ?_
  refine r_iload_n dX6_part_35 rfl 1 rfl ?_
  refine r_iconst (v := (2 : Int32)) dX6_part_36 (by decide) ?_
  refine r_iload_n dX6_part_37 rfl 2 rfl ?_
  refine r_iadd dX6_part_38 ?_
  obtain ⟨z54, hk, h⟩ := bd h
  obtain ⟨t55, S56, h0, h⟩ := bd2_s h
  refine r_invV (As := [.int v1, .int ((2 : Int32) + v2)]) (st := [.int ((25 : Int32)), .ref v0]) dX6_part_39 lv6_33 (by unfold RM; decide) (Nat.le_of_ble_eq_true rfl) rfl rfl (pk_ok hk) (T_X6_get hl h0) ?_
  refine r_aload_n dX6_part_42 rfl 0 rfl ?_
  refine r_iload_n dX6_part_43 rfl 1 rfl ?_
  refine r_bipush (v := (6 : Int32)) dX6_part_44 (by decide) ?_
  refine r_iload_n dX6_part_46 rfl 2 rfl ?_
  refine r_iadd dX6_part_47 ?_
  obtain ⟨z57, hk, h⟩ := bd h
  obtain ⟨t58, S59, h0, h⟩ := bd2_s h
  refine r_invV (As := [.int v1, .int ((6 : Int32) + v2)]) (st := [.int t55, .int ((25 : Int32)), .ref v0]) dX6_part_48 lv6_33 (by unfold RM; decide) (Nat.le_of_ble_eq_true rfl) rfl rfl (pk_ok hk) (T_X6_get hl h0) ?_
  obtain ⟨z60, hk, h⟩ := bd h
  obtain ⟨S62, h0, h⟩ := bd h
  refine r_invV (As := [.int ((25 : Int32)), .int t55, .int t58]) (st := []) dX6_part_51 lv6_60 (by unfold RM; decide) (Nat.le_of_ble_eq_true rfl) rfl rfl (pk_ok hk) (T_X6_addAllele hl h0) ?_
  refine r_aload_n dX6_part_54 rfl 0 rfl ?_
  refine r_bipush (v := (25 : Int32)) dX6_part_55 (by decide) ?_
  refine r_bipush (v := (10 : Int32)) dX6_part_57 (by decide) ?_
  refine r_aload_n dX6_part_59 rfl 0 rfl ?_
  refine r_iload_n dX6_part_60 rfl 1 rfl ?_
  refine r_bipush (v := (10 : Int32)) dX6_part_61 (by decide) ?_
  obtain ⟨z63, hk, h⟩ := bd h
  obtain ⟨t64, S65, h0, h⟩ := bd2_s h
  refine r_invV (As := [.int v1, .int ((10 : Int32))]) (st := [.int ((10 : Int32)), .int ((25 : Int32)), .ref v0]) dX6_part_63 lv6_33 (by unfold RM; decide) (Nat.le_of_ble_eq_true rfl) rfl rfl (pk_ok hk) (T_X6_get hl h0) ?_
  obtain ⟨z66, hk, h⟩ := bd h
  obtain ⟨S68, h0, h⟩ := bd h
  refine r_invV (As := [.int ((25 : Int32)), .int ((10 : Int32)), .int t64]) (st := []) dX6_part_66 lv6_29 (by unfold RM; decide) (Nat.le_of_ble_eq_true rfl) rfl rfl (pk_ok hk) (T_X6_put hl h0) ?_
  refine r_aload_n dX6_part_69 rfl 0 rfl ?_
  refine r_bipush (v := (25 : Int32)) dX6_part_70 (by decide) ?_
  refine r_bipush (v := (11 : Int32)) dX6_part_72 (by decide) ?_
  refine r_aload_n dX6_part_74 rfl 0 rfl ?_
  refine r_iload_n dX6_part_75 rfl 1 rfl ?_
  refine r_bipush (v := (11 : Int32)) dX6_part_76 (by decide) ?_
  obtain ⟨z69, hk, h⟩ := bd h
  obtain ⟨t70, S71, h0, h⟩ := bd2_s h
  refine r_invV (As := [.int v1, .int ((11 : Int32))]) (st := [.int ((11 : Int32)), .int ((25 : Int32)), .ref v0]) dX6_part_78 lv6_33 (by unfold RM; decide) (Nat.le_of_ble_eq_true rfl) rfl rfl (pk_ok hk) (T_X6_get hl h0) ?_
  obtain ⟨z72, hk, h⟩ := bd h
  obtain ⟨S74, h0, h⟩ := bd h
  refine r_invV (As := [.int ((25 : Int32)), .int ((11 : Int32)), .int t70]) (st := []) dX6_part_81 lv6_29 (by unfold RM; decide) (Nat.le_of_ble_eq_true rfl) rfl rfl (pk_ok hk) (T_X6_put hl h0) ?_
  refine r_aload_n dX6_part_84 rfl 0 rfl ?_
  refine r_bipush (v := (25 : Int32)) dX6_part_85 (by decide) ?_
  refine r_bipush (v := (12 : Int32)) dX6_part_87 (by decide) ?_
  refine r_aload_n dX6_part_89 rfl 0 rfl ?_
  refine r_iload_n dX6_part_90 rfl 1 rfl ?_
  refine r_bipush (v := (11 : Int32)) dX6_part_91 (by decide) ?_
  refine r_iload_n dX6_part_93 rfl 2 rfl ?_
  refine r_iadd dX6_part_94 ?_
  obtain ⟨z75, hk, h⟩ := bd h
  obtain ⟨t76, S77, h0, h⟩ := bd2_s h
  refine r_invV (As := [.int v1, .int ((11 : Int32) + v2)]) (st := [.int ((12 : Int32)), .int ((25 : Int32)), .ref v0]) dX6_part_95 lv6_33 (by unfold RM; decide) (Nat.le_of_ble_eq_true rfl) rfl rfl (pk_ok hk) (T_X6_get hl h0) ?_
  obtain ⟨z78, hk, h⟩ := bd h
  obtain ⟨S80, h0, h⟩ := bd h
  refine r_invV (As := [.int ((25 : Int32)), .int ((12 : Int32)), .int t76]) (st := []) dX6_part_98 lv6_29 (by unfold RM; decide) (Nat.le_of_ble_eq_true rfl) rfl rfl (pk_ok hk) (T_X6_put hl h0) ?_
  refine r_iconst (v := (0 : Int32)) dX6_part_101 (by decide) ?_
  refine r_istore_n (lv' := [(3, .int ((0 : Int32))), (0, .ref v0), (1, .int v1), (2, .int v2)]) dX6_part_102 rfl (by decide) rfl ?_
  refine r_sub [1, 2, 3, 0] rfl ?_
  exact T_X6_part_L103 hl FU v0 v1 v2 (0 : Int32) S80 h

