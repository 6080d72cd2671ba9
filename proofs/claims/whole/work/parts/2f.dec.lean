def F_X6_split_L74 : Nat → Nat → Int32 → Int32 → Int32 → Mem → Option (Int32 × Mem)
  | 0, _, _, _, _, _ => none
  | fu + 1, v0, v1, v3, v4, S =>
    if v3 < v4 then
      some (v3, S)
    else
      (pk 6 S v0).bind fun _ =>
      (F_X6_part v0 (26 : Int32) v4 S).bind fun S4 =>
      (pk 6 S4 v0).bind fun _ =>
      (F_X6_open v0 ((v1 + v4) - (1 : Int32)) S4).bind fun S7 =>
      (pk 6 S7 v0).bind fun _ =>
      (F_X6_copy v0 (25 : Int32) ((v1 + v4) - (1 : Int32)) S7).bind fun S10 =>
      F_X6_split_L74 fu v0 v1 v3 (v4 + 1) S10
set_option maxRecDepth 100000 in
theorem T_X6_split_L74 {g : GG} {l : Launch} (hl : l.stackTraces = false) {S' : Mem} {r : Int32}  : ∀ (fu : Nat) (v0 : Nat) (v1 : Int32) (v3 : Int32) (v4 : Int32) (S : Mem), F_X6_split_L74 fu v0 v1 v3 v4 S = some (r, S') → Run g l uX6_split (fin g uX6_split (cvI r) S') 74 [(0, .ref v0), (1, .int v1), (3, .int v3), (4, .int v4)] [] 0 0 S := by
  intro fu
  induction fu with
  | zero =>
    intro v0 v1 v3 v4 S h
    cases (show none = some _ from h)
  | succ fu ih =>
    intro v0 v1 v3 v4 S h
    unfold F_X6_split_L74 at h
    refine r_iload dX6_split_74 3 rfl ?_
    refine r_iload_n dX6_split_76 rfl 2 rfl ?_
    refine r_icmp_gt (tgt := 116) dX6_split_77 (by decide) (fun c1 => ?_) (fun c1 => ?_)
    · rw [if_pos c1] at h
      refine r_iload_n dX6_split_116 rfl 2 rfl ?_
      cases h
      exact r_ireturn dX6_split_117 rfl rfl (by decide) (by decide)
    · rw [if_neg c1] at h
      refine r_aload_n dX6_split_80 rfl 0 rfl ?_
      refine r_bipush (v := (26 : Int32)) dX6_split_81 (by decide) ?_
      refine r_iload dX6_split_83 3 rfl ?_
      obtain ⟨z2, hk, h⟩ := bd h
      obtain ⟨S4, h0, h⟩ := bd h
      refine r_invV (As := [.int ((26 : Int32)), .int v4]) (st := []) dX6_split_85 lv6_105 (by unfold RM; decide) (Nat.le_of_ble_eq_true rfl) rfl rfl (pk_ok hk) (T_X6_part hl h0) ?_
      refine r_aload_n dX6_split_88 rfl 0 rfl ?_
      refine r_iload_n dX6_split_89 rfl 1 rfl ?_
      refine r_iload dX6_split_90 3 rfl ?_
      refine r_iadd dX6_split_92 ?_
      refine r_iconst (v := (1 : Int32)) dX6_split_93 (by decide) ?_
      refine r_isub dX6_split_94 ?_
      obtain ⟨z5, hk, h⟩ := bd h
      obtain ⟨S7, h0, h⟩ := bd h
      refine r_invV (As := [.int ((v1 + v4) - (1 : Int32))]) (st := []) dX6_split_95 lv6_77 (by unfold RM; decide) (Nat.le_of_ble_eq_true rfl) rfl rfl (pk_ok hk) (T_X6_open hl h0) ?_
      refine r_aload_n dX6_split_98 rfl 0 rfl ?_
      refine r_bipush (v := (25 : Int32)) dX6_split_99 (by decide) ?_
      refine r_iload_n dX6_split_101 rfl 1 rfl ?_
      refine r_iload dX6_split_102 3 rfl ?_
      refine r_iadd dX6_split_104 ?_
      refine r_iconst (v := (1 : Int32)) dX6_split_105 (by decide) ?_
      refine r_isub dX6_split_106 ?_
      obtain ⟨z8, hk, h⟩ := bd h
      obtain ⟨S10, h0, h⟩ := bd h
      refine r_invV (As := [.int ((25 : Int32)), .int ((v1 + v4) - (1 : Int32))]) (st := []) dX6_split_107 lv6_81 (by unfold RM; decide) (Nat.le_of_ble_eq_true rfl) rfl rfl (pk_ok hk) (T_X6_copy hl h0) ?_
      refine r_iinc (v := v4 + 1) (lv' := [(4, .int (v4 + 1)), (0, .ref v0), (1, .int v1), (3, .int v3)]) dX6_split_110 3 rfl rfl (by decide) rfl ?_
      refine r_goto (tgt := 74) dX6_split_113 (by decide) ?_
      refine r_sub [1, 2, 3, 0] rfl ?_
      exact ih v0 v1 v3 (v4 + 1) S10 h

def F_X6_split_J51 (v0 : Nat) (v1 : Int32) (v3 : Int32) (s0 : Nat) (s1 : Int32) (s2 : Int32) (S : Mem) : Option (Int32 × Mem) :=
    (pk 6 S s0).bind fun _ =>
    bd2 (F_X6_throwing s0 s1 s2 S) fun t12 S13 =>
    if t12 = 0 then
      (pk 6 S13 v0).bind fun _ =>
      (F_X6_copy v0 v1 (26 : Int32) S13).bind fun S17 =>
      (pk 6 S17 v0).bind fun _ =>
      (F_X6_close v0 v1 S17).bind fun S20 =>
      F_X6_split_L74 FU v0 v1 v3 (1 : Int32) S20
    else
      some ((0 : Int32), S13)
set_option maxRecDepth 100000 in
theorem T_X6_split_J51 {g : GG} {l : Launch} (hl : l.stackTraces = false) {S' : Mem} {r : Int32}  : ∀ (v0 : Nat) (v1 : Int32) (v3 : Int32) (s0 : Nat) (s1 : Int32) (s2 : Int32) (S : Mem), F_X6_split_J51 v0 v1 v3 s0 s1 s2 S = some (r, S') → Run g l uX6_split (fin g uX6_split (cvI r) S') 51 [(0, .ref v0), (1, .int v1), (3, .int v3)] [.int s2, .int s1, .ref s0] 0 0 S := by
  intro v0 v1 v3 s0 s1 s2 S h
  unfold F_X6_split_J51 at h
  obtain ⟨z11, hk, h⟩ := bd h
  obtain ⟨t12, S13, h0, h⟩ := bd2_s h
  refine r_invV (As := [.int s1, .int s2]) (st := []) dX6_split_51 lv6_47 (by unfold RM; decide) (Nat.le_of_ble_eq_true rfl) rfl rfl (pk_ok hk) (T_X6_throwing hl h0) ?_
  refine r_if_eq (tgt := 59) dX6_split_54 (by decide) (fun c14 => ?_) (fun c14 => ?_)
  · rw [if_pos c14] at h
    refine r_aload_n dX6_split_59 rfl 0 rfl ?_
    refine r_iload_n dX6_split_60 rfl 1 rfl ?_
    refine r_bipush (v := (26 : Int32)) dX6_split_61 (by decide) ?_
    obtain ⟨z15, hk, h⟩ := bd h
    obtain ⟨S17, h0, h⟩ := bd h
    refine r_invV (As := [.int v1, .int ((26 : Int32))]) (st := []) dX6_split_63 lv6_81 (by unfold RM; decide) (Nat.le_of_ble_eq_true rfl) rfl rfl (pk_ok hk) (T_X6_copy hl h0) ?_
    refine r_aload_n dX6_split_66 rfl 0 rfl ?_
    refine r_iload_n dX6_split_67 rfl 1 rfl ?_
    obtain ⟨z18, hk, h⟩ := bd h
    obtain ⟨S20, h0, h⟩ := bd h
    refine r_invV (As := [.int v1]) (st := []) dX6_split_68 lv6_84 (by unfold RM; decide) (Nat.le_of_ble_eq_true rfl) rfl rfl (pk_ok hk) (T_X6_close hl h0) ?_
    refine r_iconst (v := (1 : Int32)) dX6_split_71 (by decide) ?_
    refine r_istore (lv' := [(4, .int ((1 : Int32))), (0, .ref v0), (1, .int v1), (3, .int v3)]) dX6_split_72 (by decide) rfl ?_
    refine r_sub [1, 2, 3, 0] rfl ?_
    exact T_X6_split_L74 hl FU v0 v1 v3 (1 : Int32) S20 h
  · rw [if_neg c14] at h
    refine r_iconst (v := (0 : Int32)) dX6_split_57 (by decide) ?_
    cases h
    exact r_ireturn dX6_split_58 rfl rfl (by decide) (by decide)

def F_X6_split_J46 (v0 : Nat) (v1 : Int32) (v3 : Int32) (s0 : Nat) (s1 : Int32) (S : Mem) : Option (Int32 × Mem) :=
    F_X6_split_J51 v0 v1 v3 s0 s1 (1 : Int32) S
set_option maxRecDepth 100000 in
theorem T_X6_split_J46 {g : GG} {l : Launch} (hl : l.stackTraces = false) {S' : Mem} {r : Int32}  : ∀ (v0 : Nat) (v1 : Int32) (v3 : Int32) (s0 : Nat) (s1 : Int32) (S : Mem), F_X6_split_J46 v0 v1 v3 s0 s1 S = some (r, S') → Run g l uX6_split (fin g uX6_split (cvI r) S') 46 [(0, .ref v0), (1, .int v1), (3, .int v3)] [.int s1, .ref s0] 0 0 S := by
  intro v0 v1 v3 s0 s1 S h
  unfold F_X6_split_J46 at h
  refine r_iconst (v := (1 : Int32)) dX6_split_46 (by decide) ?_
  refine r_goto (tgt := 51) dX6_split_47 (by decide) ?_
  exact T_X6_split_J51 hl v0 v1 v3 s0 s1 (1 : Int32) S h

def F_X6_split_J25 (v0 : Nat) (v1 : Int32) (v2 : Int32) (s0 : Int32) (S : Mem) : Option (Int32 × Mem) :=
    if s0 < (2 : Int32) then
      F_X6_split_J46 v0 v1 s0 v0 v2 S
    else
      (pgI 6 4 S v0).bind fun t22 =>
      if ((t22 + s0) - (1 : Int32)) ≤ (24 : Int32) then
        F_X6_split_J51 v0 v1 s0 v0 v2 (0 : Int32) S
      else
        F_X6_split_J46 v0 v1 s0 v0 v2 S
set_option maxRecDepth 100000 in
theorem T_X6_split_J25 {g : GG} {l : Launch} (hl : l.stackTraces = false) {S' : Mem} {r : Int32}  : ∀ (v0 : Nat) (v1 : Int32) (v2 : Int32) (s0 : Int32) (S : Mem), F_X6_split_J25 v0 v1 v2 s0 S = some (r, S') → Run g l uX6_split (fin g uX6_split (cvI r) S') 25 [(0, .ref v0), (1, .int v1), (2, .int v2)] [.int s0] 0 0 S := by
  intro v0 v1 v2 s0 S h
  unfold F_X6_split_J25 at h
  refine r_istore_n (lv' := [(3, .int s0), (0, .ref v0), (1, .int v1), (2, .int v2)]) dX6_split_25 rfl (by decide) rfl ?_
  refine r_aload_n dX6_split_26 rfl 1 rfl ?_
  refine r_iload_n dX6_split_27 rfl 3 rfl ?_
  refine r_iload_n dX6_split_28 rfl 0 rfl ?_
  refine r_iconst (v := (2 : Int32)) dX6_split_29 (by decide) ?_
  refine r_icmp_lt (tgt := 46) dX6_split_30 (by decide) (fun c21 => ?_) (fun c21 => ?_)
  · rw [if_pos c21] at h
    refine r_sub [1, 2, 0] rfl ?_
    exact T_X6_split_J46 hl v0 v1 s0 v0 v2 S h
  · rw [if_neg c21] at h
    refine r_aload_n dX6_split_33 rfl 1 rfl ?_
    obtain ⟨t22, h0, h⟩ := bd h
    refine q_getI h0 dX6_split_34 fl6_44 rfl ?_
    refine r_iload_n dX6_split_37 rfl 0 rfl ?_
    refine r_iadd dX6_split_38 ?_
    refine r_iconst (v := (1 : Int32)) dX6_split_39 (by decide) ?_
    refine r_isub dX6_split_40 ?_
    refine r_bipush (v := (24 : Int32)) dX6_split_41 (by decide) ?_
    refine r_icmp_le (tgt := 50) dX6_split_43 (by decide) (fun c23 => ?_) (fun c23 => ?_)
    · rw [if_pos c23] at h
      refine r_iconst (v := (0 : Int32)) dX6_split_50 (by decide) ?_
      refine r_sub [1, 2, 0] rfl ?_
      exact T_X6_split_J51 hl v0 v1 s0 v0 v2 (0 : Int32) S h
    · rw [if_neg c23] at h
      refine r_sub [1, 2, 0] rfl ?_
      exact T_X6_split_J46 hl v0 v1 s0 v0 v2 S h

def F_X6_split (v0 : Nat) (v1 : Int32) (S : Mem) : Option (Int32 × Mem) :=
    (pgI 6 4 S v0).bind fun t24 =>
    bd2 (F_X6_out v1 t24 S) fun t25 S26 =>
    if t25 = 0 then
      (pk 6 S26 v0).bind fun _ =>
      bd2 (F_X6_get v0 v1 (1 : Int32) S26) fun t29 S30 =>
      F_X6_split_J25 v0 v1 t25 (t29 - (1 : Int32)) S30
    else
      F_X6_split_J25 v0 v1 t25 (0 : Int32) S26
set_option maxRecDepth 100000 in
theorem T_X6_split {g : GG} {l : Launch} (hl : l.stackTraces = false) {v0 : Nat} {v1 : Int32} {S S' : Mem} {r : Int32} (h : F_X6_split v0 v1 S = some (r, S')) : Call g l uX6_split [.ref v0, .int v1] S (cvI r) S' := by
  refine call_of (by decide +kernel) hl rfl (Nat.le_of_ble_eq_true rfl) ?_
  show Run g l uX6_split _ 0 [(0, .ref v0), (1, .int v1)] [] 0 0 S
  unfold F_X6_split at h
  refine r_iload_n dX6_split_0 rfl 1 rfl ?_
  refine r_aload_n dX6_split_1 rfl 0 rfl ?_
  obtain ⟨t24, h0, h⟩ := bd h
  refine q_getI h0 dX6_split_2 fl6_44 rfl ?_
  obtain ⟨t25, S26, h0, h⟩ := bd2_s h
  refine r_invS (As := [.int v1, .int t24]) (st := []) dX6_split_5 ls6_67 (by unfold RM; decide) (Nat.le_of_ble_eq_true rfl) rfl rfl (T_X6_out hl h0) ?_
  refine r_istore_n (lv' := [(2, .int t25), (0, .ref v0), (1, .int v1)]) dX6_split_8 rfl (by decide) rfl ?_
  refine r_iload_n dX6_split_9 rfl 0 rfl ?_
  refine r_if_eq (tgt := 17) dX6_split_10 (by decide) (fun c27 => ?_) (fun c27 => ?_)
  · rw [if_pos c27] at h
    refine r_aload_n dX6_split_17 rfl 1 rfl ?_
    refine r_iload_n dX6_split_18 rfl 2 rfl ?_
    refine r_iconst (v := (1 : Int32)) dX6_split_19 (by decide) ?_
    obtain ⟨z28, hk, h⟩ := bd h
    obtain ⟨t29, S30, h0, h⟩ := bd2_s h
    refine r_invV (As := [.int v1, .int ((1 : Int32))]) (st := []) dX6_split_20 lv6_33 (by unfold RM; decide) (Nat.le_of_ble_eq_true rfl) rfl rfl (pk_ok hk) (T_X6_get hl h0) ?_
    refine r_iconst (v := (1 : Int32)) dX6_split_23 (by decide) ?_
    refine r_isub dX6_split_24 ?_
    refine r_sub [1, 2, 0] rfl ?_
    exact T_X6_split_J25 hl v0 v1 t25 (t29 - (1 : Int32)) S30 h
  · rw [if_neg c27] at h
    refine r_iconst (v := (0 : Int32)) dX6_split_13 (by decide) ?_
    refine r_goto (tgt := 25) dX6_split_14 (by decide) ?_
    refine r_sub [1, 2, 0] rfl ?_
    exact T_X6_split_J25 hl v0 v1 t25 (0 : Int32) S26 h

def F_X6_gather_J142 (K45 : Nat → Int32 → Int32 → Int32 → Int32 → Int32 → Mem → Option (Int32 × Mem)) (v0 : Nat) (v1 : Int32) (v2 : Int32) (v3 : Int32) (v4 : Int32) (v5 : Int32) (v6 : Int32) (v7 : Int32) (S : Mem) : Option (Int32 × Mem) :=
    (pgR 6 10 S v0).bind fun t1 =>
    (pk 6 S v0).bind fun _ =>
    bd2 (F_X6_findAllele v0 (25 : Int32) v6 v7 S) fun t3 S4 =>
    (psI S4 t1 (((4 : Int32) * v2) + v5) t3).bind fun S5 =>
    K45 v0 v1 v2 v3 v4 (v5 + 1) S5
set_option maxRecDepth 100000 in
theorem T_X6_gather_J142 {g : GG} {l : Launch} (hl : l.stackTraces = false) {S' : Mem} {r : Int32}  {K45 : Nat → Int32 → Int32 → Int32 → Int32 → Int32 → Mem → Option (Int32 × Mem)} (hK45 : ∀ (v0 : Nat) (v1 : Int32) (v2 : Int32) (v3 : Int32) (v4 : Int32) (v5 : Int32) (S : Mem), K45 v0 v1 v2 v3 v4 v5 S = some (r, S') → Run g l uX6_gather (fin g uX6_gather (cvI r) S') 45 [(0, .ref v0), (1, .int v1), (2, .int v2), (3, .int v3), (4, .int v4), (5, .int v5)] [] 0 0 S) : ∀ (v0 : Nat) (v1 : Int32) (v2 : Int32) (v3 : Int32) (v4 : Int32) (v5 : Int32) (v6 : Int32) (v7 : Int32) (S : Mem), F_X6_gather_J142 K45 v0 v1 v2 v3 v4 v5 v6 v7 S = some (r, S') → Run g l uX6_gather (fin g uX6_gather (cvI r) S') 142 [(0, .ref v0), (1, .int v1), (2, .int v2), (3, .int v3), (4, .int v4), (5, .int v5), (6, .int v6), (7, .int v7)] [] 0 0 S := by
  intro v0 v1 v2 v3 v4 v5 v6 v7 S h
  unfold F_X6_gather_J142 at h
  refine r_aload_n dX6_gather_142 rfl 0 rfl ?_
  obtain ⟨t1, h0, h⟩ := bd h
  refine q_getR h0 dX6_gather_143 fl6_22 rfl ?_
  refine r_iconst (v := (4 : Int32)) dX6_gather_146 (by decide) ?_
  refine r_iload_n dX6_gather_147 rfl 2 rfl ?_
  refine r_imul dX6_gather_148 ?_
  refine r_iload dX6_gather_149 5 rfl ?_
  refine r_iadd dX6_gather_151 ?_
  refine r_aload_n dX6_gather_152 rfl 0 rfl ?_
  refine r_bipush (v := (25 : Int32)) dX6_gather_153 (by decide) ?_
  refine r_iload dX6_gather_155 6 rfl ?_
  refine r_iload dX6_gather_157 7 rfl ?_
  obtain ⟨z2, hk, h⟩ := bd h
  obtain ⟨t3, S4, h0, h⟩ := bd2_s h
  refine r_invV (As := [.int ((25 : Int32)), .int v6, .int v7]) (st := [.int (((4 : Int32) * v2) + v5), .ref t1]) dX6_gather_159 lv6_63 (by unfold RM; decide) (Nat.le_of_ble_eq_true rfl) rfl rfl (pk_ok hk) (T_X6_findAllele hl h0) ?_
  obtain ⟨S5, h0, h⟩ := bd h
  refine q_iastore h0 dX6_gather_162 ?_
  refine r_iinc (v := v5 + 1) (lv' := [(5, .int (v5 + 1)), (0, .ref v0), (1, .int v1), (2, .int v2), (3, .int v3), (4, .int v4), (6, .int v6), (7, .int v7)]) dX6_gather_163 5 rfl rfl (by decide) rfl ?_
  refine r_goto (tgt := 45) dX6_gather_166 (by decide) ?_
  refine r_sub [1, 2, 3, 4, 5, 0] rfl ?_
  exact hK45 v0 v1 v2 v3 v4 (v5 + 1) S5 h

def F_X6_gather_J127 (K45 : Nat → Int32 → Int32 → Int32 → Int32 → Int32 → Mem → Option (Int32 × Mem)) (v0 : Nat) (v1 : Int32) (v2 : Int32) (v3 : Int32) (v4 : Int32) (v5 : Int32) (v6 : Int32) (v7 : Int32) (v8 : Int32) (S : Mem) : Option (Int32 × Mem) :=
    if 0 ≤ v8 then
      F_X6_gather_J142 K45 v0 v1 v2 v3 v4 v5 v6 v7 S
    else
      (pk 6 S v0).bind fun _ =>
      (F_X6_addAllele v0 (25 : Int32) v6 v7 S).bind fun S9 =>
      F_X6_gather_J142 K45 v0 v1 v2 v3 v4 v5 v6 v7 S9
set_option maxRecDepth 100000 in
theorem T_X6_gather_J127 {g : GG} {l : Launch} (hl : l.stackTraces = false) {S' : Mem} {r : Int32}  {K45 : Nat → Int32 → Int32 → Int32 → Int32 → Int32 → Mem → Option (Int32 × Mem)} (hK45 : ∀ (v0 : Nat) (v1 : Int32) (v2 : Int32) (v3 : Int32) (v4 : Int32) (v5 : Int32) (S : Mem), K45 v0 v1 v2 v3 v4 v5 S = some (r, S') → Run g l uX6_gather (fin g uX6_gather (cvI r) S') 45 [(0, .ref v0), (1, .int v1), (2, .int v2), (3, .int v3), (4, .int v4), (5, .int v5)] [] 0 0 S) : ∀ (v0 : Nat) (v1 : Int32) (v2 : Int32) (v3 : Int32) (v4 : Int32) (v5 : Int32) (v6 : Int32) (v7 : Int32) (v8 : Int32) (S : Mem), F_X6_gather_J127 K45 v0 v1 v2 v3 v4 v5 v6 v7 v8 S = some (r, S') → Run g l uX6_gather (fin g uX6_gather (cvI r) S') 127 [(0, .ref v0), (1, .int v1), (2, .int v2), (3, .int v3), (4, .int v4), (5, .int v5), (6, .int v6), (7, .int v7), (8, .int v8)] [] 0 0 S := by
  intro v0 v1 v2 v3 v4 v5 v6 v7 v8 S h
  unfold F_X6_gather_J127 at h
  refine r_iload dX6_gather_127 8 rfl ?_
  refine r_if_ge (tgt := 142) dX6_gather_129 (by decide) (fun c6 => ?_) (fun c6 => ?_)
  · rw [if_pos c6] at h
    refine r_sub [0, 1, 2, 3, 4, 5, 6, 7] rfl ?_
    exact T_X6_gather_J142 hl hK45 v0 v1 v2 v3 v4 v5 v6 v7 S h
  · rw [if_neg c6] at h
    refine r_aload_n dX6_gather_132 rfl 0 rfl ?_
    refine r_bipush (v := (25 : Int32)) dX6_gather_133 (by decide) ?_
    refine r_iload dX6_gather_135 6 rfl ?_
    refine r_iload dX6_gather_137 7 rfl ?_
    obtain ⟨z7, hk, h⟩ := bd h
    obtain ⟨S9, h0, h⟩ := bd h
    refine r_invV (As := [.int ((25 : Int32)), .int v6, .int v7]) (st := []) dX6_gather_139 lv6_60 (by unfold RM; decide) (Nat.le_of_ble_eq_true rfl) rfl rfl (pk_ok hk) (T_X6_addAllele hl h0) ?_
    refine r_sub [0, 1, 2, 3, 4, 5, 6, 7] rfl ?_
    exact T_X6_gather_J142 hl hK45 v0 v1 v2 v3 v4 v5 v6 v7 S9 h

def F_X6_gather_L45 : Nat → Nat → Int32 → Int32 → Int32 → Int32 → Int32 → Mem → Option (Int32 × Mem)
  | 0, _, _, _, _, _, _, _ => none
  | fu + 1, v0, v1, v2, v3, v4, v5, S =>
    (pk 6 S v0).bind fun _ =>
    bd2 (F_X6_get v0 v1 (1 : Int32) S) fun t11 S12 =>
    if t11 ≤ v5 then
      some ((1 : Int32), S12)
    else
      (pk 6 S12 v0).bind fun _ =>
      bd2 (F_X6_get v0 v1 ((2 : Int32) + v5) S12) fun t15 S16 =>
      if (t15 + v3) ≤ (8 : Int32) then
        (pk 6 S16 v0).bind fun _ =>
        bd2 (F_X6_get v0 v1 ((6 : Int32) + v5) S16) fun t19 S20 =>
        (pk 6 S20 v0).bind fun _ =>
        bd2 (F_X6_findAllele v0 (25 : Int32) (t15 + v3) ((t19 <<< (((2 : Int32) * v3) &&& 31)) ||| v4) S20) fun t22 S23 =>
        if 0 ≤ t22 then
          F_X6_gather_J127 (F_X6_gather_L45 fu) v0 v1 v2 v3 v4 v5 (t15 + v3) ((t19 <<< (((2 : Int32) * v3) &&& 31)) ||| v4) t22 S23
        else
          (pk 6 S23 v0).bind fun _ =>
          bd2 (F_X6_get v0 (25 : Int32) (1 : Int32) S23) fun t26 S27 =>
          if t26 = (4 : Int32) then
            some ((0 : Int32), S27)
          else
            F_X6_gather_J127 (F_X6_gather_L45 fu) v0 v1 v2 v3 v4 v5 (t15 + v3) ((t19 <<< (((2 : Int32) * v3) &&& 31)) ||| v4) t22 S27
      else
        some ((0 : Int32), S16)
set_option maxRecDepth 100000 in
theorem T_X6_gather_L45 {g : GG} {l : Launch} (hl : l.stackTraces = false) {S' : Mem} {r : Int32}  : ∀ (fu : Nat) (v0 : Nat) (v1 : Int32) (v2 : Int32) (v3 : Int32) (v4 : Int32) (v5 : Int32) (S : Mem), F_X6_gather_L45 fu v0 v1 v2 v3 v4 v5 S = some (r, S') → Run g l uX6_gather (fin g uX6_gather (cvI r) S') 45 [(0, .ref v0), (1, .int v1), (2, .int v2), (3, .int v3), (4, .int v4), (5, .int v5)] [] 0 0 S := by
  intro fu
  induction fu with
  | zero =>
    intro v0 v1 v2 v3 v4 v5 S h
    cases (show none = some _ from h)
  | succ fu ih =>
    intro v0 v1 v2 v3 v4 v5 S h
    unfold F_X6_gather_L45 at h
    refine r_iload dX6_gather_45 5 rfl ?_
    refine r_aload_n dX6_gather_47 rfl 0 rfl ?_
    refine r_iload_n dX6_gather_48 rfl 1 rfl ?_
    refine r_iconst (v := (1 : Int32)) dX6_gather_49 (by decide) ?_
    obtain ⟨z10, hk, h⟩ := bd h
    obtain ⟨t11, S12, h0, h⟩ := bd2_s h
    refine r_invV (As := [.int v1, .int ((1 : Int32))]) (st := [.int v5]) dX6_gather_50 lv6_33 (by unfold RM; decide) (Nat.le_of_ble_eq_true rfl) rfl rfl (pk_ok hk) (T_X6_get hl h0) ?_
    refine r_icmp_ge (tgt := 169) dX6_gather_53 (by decide) (fun c13 => ?_) (fun c13 => ?_)
    · rw [if_pos c13] at h
      refine r_iconst (v := (1 : Int32)) dX6_gather_169 (by decide) ?_
      cases h
      exact r_ireturn dX6_gather_170 rfl (by decide) (by decide) (by decide)
    · rw [if_neg c13] at h
      refine r_aload_n dX6_gather_56 rfl 0 rfl ?_
      refine r_iload_n dX6_gather_57 rfl 1 rfl ?_
      refine r_iconst (v := (2 : Int32)) dX6_gather_58 (by decide) ?_
      refine r_iload dX6_gather_59 5 rfl ?_
      refine r_iadd dX6_gather_61 ?_
      obtain ⟨z14, hk, h⟩ := bd h
      obtain ⟨t15, S16, h0, h⟩ := bd2_s h
      refine r_invV (As := [.int v1, .int ((2 : Int32) + v5)]) (st := []) dX6_gather_62 lv6_33 (by unfold RM; decide) (Nat.le_of_ble_eq_true rfl) rfl rfl (pk_ok hk) (T_X6_get hl h0) ?_
      refine r_iload_n dX6_gather_65 rfl 3 rfl ?_
      refine r_iadd dX6_gather_66 ?_
      refine r_istore (lv' := [(6, .int (t15 + v3)), (0, .ref v0), (1, .int v1), (2, .int v2), (3, .int v3), (4, .int v4), (5, .int v5)]) dX6_gather_67 (by decide) rfl ?_
      refine r_iload dX6_gather_69 0 rfl ?_
      refine r_bipush (v := (8 : Int32)) dX6_gather_71 (by decide) ?_
      refine r_icmp_le (tgt := 78) dX6_gather_73 (by decide) (fun c17 => ?_) (fun c17 => ?_)
      · rw [if_pos c17] at h
        refine r_aload_n dX6_gather_78 rfl 1 rfl ?_
        refine r_iload_n dX6_gather_79 rfl 2 rfl ?_
        refine r_bipush (v := (6 : Int32)) dX6_gather_80 (by decide) ?_
        refine r_iload dX6_gather_82 6 rfl ?_
        refine r_iadd dX6_gather_84 ?_
        obtain ⟨z18, hk, h⟩ := bd h
        obtain ⟨t19, S20, h0, h⟩ := bd2_s h
        refine r_invV (As := [.int v1, .int ((6 : Int32) + v5)]) (st := []) dX6_gather_85 lv6_33 (by unfold RM; decide) (Nat.le_of_ble_eq_true rfl) rfl rfl (pk_ok hk) (T_X6_get hl h0) ?_
        refine r_iconst (v := (2 : Int32)) dX6_gather_88 (by decide) ?_
        refine r_iload_n dX6_gather_89 rfl 4 rfl ?_
        refine r_imul dX6_gather_90 ?_
        refine r_ishl dX6_gather_91 ?_
        refine r_iload dX6_gather_92 5 rfl ?_
        refine r_ior dX6_gather_94 ?_
        refine r_istore (lv' := [(7, .int ((t19 <<< (((2 : Int32) * v3) &&& 31)) ||| v4)), (6, .int (t15 + v3)), (0, .ref v0), (1, .int v1), (2, .int v2), (3, .int v3), (4, .int v4), (5, .int v5)]) dX6_gather_95 (by decide) rfl ?_
        refine r_aload_n dX6_gather_97 rfl 2 rfl ?_
        refine r_bipush (v := (25 : Int32)) dX6_gather_98 (by decide) ?_
        refine r_iload dX6_gather_100 1 rfl ?_
        refine r_iload dX6_gather_102 0 rfl ?_
        obtain ⟨z21, hk, h⟩ := bd h
        obtain ⟨t22, S23, h0, h⟩ := bd2_s h
        refine r_invV (As := [.int ((25 : Int32)), .int (t15 + v3), .int ((t19 <<< (((2 : Int32) * v3) &&& 31)) ||| v4)]) (st := []) dX6_gather_104 lv6_63 (by unfold RM; decide) (Nat.le_of_ble_eq_true rfl) rfl rfl (pk_ok hk) (T_X6_findAllele hl h0) ?_
        refine r_istore (lv' := [(8, .int t22), (7, .int ((t19 <<< (((2 : Int32) * v3) &&& 31)) ||| v4)), (6, .int (t15 + v3)), (0, .ref v0), (1, .int v1), (2, .int v2), (3, .int v3), (4, .int v4), (5, .int v5)]) dX6_gather_107 (by decide) rfl ?_
        refine r_iload dX6_gather_109 0 rfl ?_
        refine r_if_ge (tgt := 127) dX6_gather_111 (by decide) (fun c24 => ?_) (fun c24 => ?_)
        · rw [if_pos c24] at h
          refine r_sub [3, 4, 5, 6, 7, 8, 2, 1, 0] rfl ?_
          exact T_X6_gather_J127 hl (fun v0 v1 v2 v3 v4 v5 S h => ih v0 v1 v2 v3 v4 v5 S h) v0 v1 v2 v3 v4 v5 (t15 + v3) ((t19 <<< (((2 : Int32) * v3) &&& 31)) ||| v4) t22 S23 h
        · rw [if_neg c24] at h
          refine r_aload_n dX6_gather_114 rfl 3 rfl ?_
          refine r_bipush (v := (25 : Int32)) dX6_gather_115 (by decide) ?_
          refine r_iconst (v := (1 : Int32)) dX6_gather_117 (by decide) ?_
          obtain ⟨z25, hk, h⟩ := bd h
          obtain ⟨t26, S27, h0, h⟩ := bd2_s h
          refine r_invV (As := [.int ((25 : Int32)), .int ((1 : Int32))]) (st := []) dX6_gather_118 lv6_33 (by unfold RM; decide) (Nat.le_of_ble_eq_true rfl) rfl rfl (pk_ok hk) (T_X6_get hl h0) ?_
          refine r_iconst (v := (4 : Int32)) dX6_gather_121 (by decide) ?_
          refine r_icmp_ne (tgt := 127) dX6_gather_122 (by decide) (fun c28 => ?_) (fun c28 => ?_)
          · rw [if_neg c28] at h
            refine r_sub [3, 4, 5, 6, 7, 8, 2, 1, 0] rfl ?_
            exact T_X6_gather_J127 hl (fun v0 v1 v2 v3 v4 v5 S h => ih v0 v1 v2 v3 v4 v5 S h) v0 v1 v2 v3 v4 v5 (t15 + v3) ((t19 <<< (((2 : Int32) * v3) &&& 31)) ||| v4) t22 S27 h
          · rw [if_pos c28] at h
            refine r_iconst (v := (0 : Int32)) dX6_gather_125 (by decide) ?_
            cases h
            exact r_ireturn dX6_gather_126 rfl (by decide) (by decide) (by decide)
      · rw [if_neg c17] at h
        refine r_iconst (v := (0 : Int32)) dX6_gather_76 (by decide) ?_
        cases h
        exact r_ireturn dX6_gather_77 rfl (by decide) (by decide) (by decide)

def F_X6_gather (v0 : Nat) (v1 : Int32) (v2 : Int32) (S : Mem) : Option (Int32 × Mem) :=
    (pk 6 S v0).bind fun _ =>
    bd2 (F_X6_get v0 (25 : Int32) (2 : Int32) S) fun t30 S31 =>
    (pk 6 S31 v0).bind fun _ =>
    bd2 (F_X6_get v0 v1 (2 : Int32) S31) fun t33 S34 =>
    (pk 6 S34 v0).bind fun _ =>
    bd2 (F_X6_get v0 (25 : Int32) (6 : Int32) S34) fun t36 S37 =>
    (pgR 6 10 S37 v0).bind fun t38 =>
    (psI S37 t38 ((4 : Int32) * v2) (0 : Int32)).bind fun S39 =>
    F_X6_gather_L45 FU v0 v1 v2 (t30 - t33) (t36 &&& (((1 : Int32) <<< (((2 : Int32) * (t30 - t33)) &&& 31)) - (1 : Int32))) (1 : Int32) S39
set_option maxRecDepth 100000 in
theorem T_X6_gather {g : GG} {l : Launch} (hl : l.stackTraces = false) {v0 : Nat} {v1 : Int32} {v2 : Int32} {S S' : Mem} {r : Int32} (h : F_X6_gather v0 v1 v2 S = some (r, S')) : Call g l uX6_gather [.ref v0, .int v1, .int v2] S (cvI r) S' := by
  refine call_of (by decide +kernel) hl rfl (Nat.le_of_ble_eq_true rfl) ?_
  show Run g l uX6_gather _ 0 [(0, .ref v0), (1, .int v1), (2, .int v2)] [] 0 0 S
  unfold F_X6_gather at h
  refine r_aload_n dX6_gather_0 rfl 0 rfl ?_
  refine r_bipush (v := (25 : Int32)) dX6_gather_1 (by decide) ?_
  refine r_iconst (v := (2 : Int32)) dX6_gather_3 (by decide) ?_
  obtain ⟨z29, hk, h⟩ := bd h
  obtain ⟨t30, S31, h0, h⟩ := bd2_s h
  refine r_invV (As := [.int ((25 : Int32)), .int ((2 : Int32))]) (st := []) dX6_gather_4 lv6_33 (by unfold RM; decide) (Nat.le_of_ble_eq_true rfl) rfl rfl (pk_ok hk) (T_X6_get hl h0) ?_
  refine r_aload_n dX6_gather_7 rfl 0 rfl ?_
  refine r_iload_n dX6_gather_8 rfl 1 rfl ?_
  refine r_iconst (v := (2 : Int32)) dX6_gather_9 (by decide) ?_
  obtain ⟨z32, hk, h⟩ := bd h
  obtain ⟨t33, S34, h0, h⟩ := bd2_s h
  refine r_invV (As := [.int v1, .int ((2 : Int32))]) (st := [.int t30]) dX6_gather_10 lv6_33 (by unfold RM; decide) (Nat.le_of_ble_eq_true rfl) rfl rfl (pk_ok hk) (T_X6_get hl h0) ?_
  refine r_isub dX6_gather_13 ?_
  refine r_istore_n (lv' := [(3, .int (t30 - t33)), (0, .ref v0), (1, .int v1), (2, .int v2)]) dX6_gather_14 rfl (by decide) rfl ?_
  refine r_aload_n dX6_gather_15 rfl 1 rfl ?_
  refine r_bipush (v := (25 : Int32)) dX6_gather_16 (by decide) ?_
  refine r_bipush (v := (6 : Int32)) dX6_gather_18 (by decide) ?_
  obtain ⟨z35, hk, h⟩ := bd h
  obtain ⟨t36, S37, h0, h⟩ := bd2_s h
  refine r_invV (As := [.int ((25 : Int32)), .int ((6 : Int32))]) (st := []) dX6_gather_20 lv6_33 (by unfold RM; decide) (Nat.le_of_ble_eq_true rfl) rfl rfl (pk_ok hk) (T_X6_get hl h0) ?_
  refine r_iconst (v := (1 : Int32)) dX6_gather_23 (by decide) ?_
  refine r_iconst (v := (2 : Int32)) dX6_gather_24 (by decide) ?_
  refine r_iload_n dX6_gather_25 rfl 0 rfl ?_
  refine r_imul dX6_gather_26 ?_
  refine r_ishl dX6_gather_27 ?_
  refine r_iconst (v := (1 : Int32)) dX6_gather_28 (by decide) ?_
  refine r_isub dX6_gather_29 ?_
  refine r_iand dX6_gather_30 ?_
  refine r_istore (lv' := [(4, .int (t36 &&& (((1 : Int32) <<< (((2 : Int32) * (t30 - t33)) &&& 31)) - (1 : Int32)))), (3, .int (t30 - t33)), (0, .ref v0), (1, .int v1), (2, .int v2)]) dX6_gather_31 (by decide) rfl ?_
  refine r_aload_n dX6_gather_33 rfl 2 rfl ?_
  obtain ⟨t38, h0, h⟩ := bd h
  refine q_getR h0 dX6_gather_34 fl6_22 rfl ?_
  refine r_iconst (v := (4 : Int32)) dX6_gather_37 (by decide) ?_
  refine r_iload_n dX6_gather_38 rfl 4 rfl ?_
  refine r_imul dX6_gather_39 ?_
  refine r_iconst (v := (0 : Int32)) dX6_gather_40 (by decide) ?_
  obtain ⟨S39, h0, h⟩ := bd h
  refine q_iastore h0 dX6_gather_41 ?_
  refine r_iconst (v := (1 : Int32)) dX6_gather_42 (by decide) ?_
  refine r_istore (lv' := [(5, .int ((1 : Int32))), (4, .int (t36 &&& (((1 : Int32) <<< (((2 : Int32) * (t30 - t33)) &&& 31)) - (1 : Int32)))), (3, .int (t30 - t33)), (0, .ref v0), (1, .int v1), (2, .int v2)]) dX6_gather_43 (by decide) rfl ?_
  refine r_sub [3, 4, 5, 2, 1, 0] rfl ?_
  exact T_X6_gather_L45 hl FU v0 v1 v2 (t30 - t33) (t36 &&& (((1 : Int32) <<< (((2 : Int32) * (t30 - t33)) &&& 31)) - (1 : Int32))) (1 : Int32) S39 h

def F_X6_back_L3 : Nat → Nat → Int32 → Int32 → Int32 → Int32 → Mem → Option (Int32 × Mem)
  | 0, _, _, _, _, _, _ => none
  | fu + 1, v0, v1, v2, v3, v4, S =>
    (pk 6 S v0).bind fun _ =>
    bd2 (F_X6_get v0 v1 (1 : Int32) S) fun t2 S3 =>
    if t2 ≤ v4 then
      some ((-1 : Int32), S3)
    else
      (pgR 6 10 S3 v0).bind fun t5 =>
      (paI S3 t5 (((4 : Int32) * v2) + v4)).bind fun t6 =>
      if t6 = v3 then
        some (v4, S3)
      else
        F_X6_back_L3 fu v0 v1 v2 v3 (v4 + 1) S3
set_option maxRecDepth 100000 in
theorem T_X6_back_L3 {g : GG} {l : Launch} (hl : l.stackTraces = false) {S' : Mem} {r : Int32}  : ∀ (fu : Nat) (v0 : Nat) (v1 : Int32) (v2 : Int32) (v3 : Int32) (v4 : Int32) (S : Mem), F_X6_back_L3 fu v0 v1 v2 v3 v4 S = some (r, S') → Run g l uX6_back (fin g uX6_back (cvI r) S') 3 [(0, .ref v0), (1, .int v1), (2, .int v2), (3, .int v3), (4, .int v4)] [] 0 0 S := by
  intro fu
  induction fu with
  | zero =>
    intro v0 v1 v2 v3 v4 S h
    cases (show none = some _ from h)
  | succ fu ih =>
    intro v0 v1 v2 v3 v4 S h
    unfold F_X6_back_L3 at h
    refine r_iload dX6_back_3 4 rfl ?_
    refine r_aload_n dX6_back_5 rfl 0 rfl ?_
    refine r_iload_n dX6_back_6 rfl 1 rfl ?_
    refine r_iconst (v := (1 : Int32)) dX6_back_7 (by decide) ?_
    obtain ⟨z1, hk, h⟩ := bd h
    obtain ⟨t2, S3, h0, h⟩ := bd2_s h
    refine r_invV (As := [.int v1, .int ((1 : Int32))]) (st := [.int v4]) dX6_back_8 lv6_33 (by unfold RM; decide) (Nat.le_of_ble_eq_true rfl) rfl rfl (pk_ok hk) (T_X6_get hl h0) ?_
    refine r_icmp_ge (tgt := 38) dX6_back_11 (by decide) (fun c4 => ?_) (fun c4 => ?_)
    · rw [if_pos c4] at h
      refine r_iconst (v := (-1 : Int32)) dX6_back_38 (by decide) ?_
      cases h
      exact r_ireturn dX6_back_39 rfl rfl (by decide) (by decide)
    · rw [if_neg c4] at h
      refine r_aload_n dX6_back_14 rfl 0 rfl ?_
      obtain ⟨t5, h0, h⟩ := bd h
      refine q_getR h0 dX6_back_15 fl6_22 rfl ?_
      refine r_iconst (v := (4 : Int32)) dX6_back_18 (by decide) ?_
      refine r_iload_n dX6_back_19 rfl 2 rfl ?_
      refine r_imul dX6_back_20 ?_
      refine r_iload dX6_back_21 4 rfl ?_
      refine r_iadd dX6_back_23 ?_
      obtain ⟨t6, h0, h⟩ := bd h
      refine q_iaload h0 dX6_back_24 ?_
      refine r_iload_n dX6_back_25 rfl 3 rfl ?_
      refine r_icmp_ne (tgt := 32) dX6_back_26 (by decide) (fun c7 => ?_) (fun c7 => ?_)
      · rw [if_neg c7] at h
        refine r_iinc (v := v4 + 1) (lv' := [(4, .int (v4 + 1)), (0, .ref v0), (1, .int v1), (2, .int v2), (3, .int v3)]) dX6_back_32 4 rfl rfl (by decide) rfl ?_
        refine r_goto (tgt := 3) dX6_back_35 (by decide) ?_
        refine r_sub [1, 2, 3, 4, 0] rfl ?_
        exact ih v0 v1 v2 v3 (v4 + 1) S3 h
      · rw [if_pos c7] at h
        refine r_iload dX6_back_29 4 rfl ?_
        cases h
        exact r_ireturn dX6_back_31 rfl rfl (by decide) (by decide)

def F_X6_back (v0 : Nat) (v1 : Int32) (v2 : Int32) (v3 : Int32) (S : Mem) : Option (Int32 × Mem) :=
    F_X6_back_L3 FU v0 v1 v2 v3 (0 : Int32) S
set_option maxRecDepth 100000 in
theorem T_X6_back {g : GG} {l : Launch} (hl : l.stackTraces = false) {v0 : Nat} {v1 : Int32} {v2 : Int32} {v3 : Int32} {S S' : Mem} {r : Int32} (h : F_X6_back v0 v1 v2 v3 S = some (r, S')) : Call g l uX6_back [.ref v0, .int v1, .int v2, .int v3] S (cvI r) S' := by
  refine call_of (by decide +kernel) hl rfl (Nat.le_of_ble_eq_true rfl) ?_
  show Run g l uX6_back _ 0 [(0, .ref v0), (1, .int v1), (2, .int v2), (3, .int v3)] [] 0 0 S
  unfold F_X6_back at h
  refine r_iconst (v := (0 : Int32)) dX6_back_0 (by decide) ?_
  refine r_istore (lv' := [(4, .int ((0 : Int32))), (0, .ref v0), (1, .int v1), (2, .int v2), (3, .int v3)]) dX6_back_1 (by decide) rfl ?_
  refine r_sub [1, 2, 3, 4, 0] rfl ?_
  exact T_X6_back_L3 hl FU v0 v1 v2 v3 (0 : Int32) S h

def F_X6_likely_J30  (S : Mem) : Option (Int32 × Mem) :=
    some ((999 : Int32), S)
set_option maxRecDepth 100000 in
theorem T_X6_likely_J30 {g : GG} {l : Launch} (hl : l.stackTraces = false) {S' : Mem} {r : Int32}  : ∀  (S : Mem), F_X6_likely_J30  S = some (r, S') → Run g l uX6_likely (fin g uX6_likely (cvI r) S') 30 [] [] 0 0 S := by
  intro  S h
  unfold F_X6_likely_J30 at h
  refine r_sipush (v := (999 : Int32)) dX6_likely_30 (by decide) ?_
  refine r_goto (tgt := 56) dX6_likely_33 (by decide) ?_
  cases h
  exact r_ireturn dX6_likely_56 rfl rfl (by decide) (by decide)

def F_X6_likely (v0 : Nat) (v1 : Int32) (v2 : Int32) (v3 : Int32) (v4 : Int32) (v5 : Int32) (S : Mem) : Option (Int32 × Mem) :=
    (pk 6 S v0).bind fun _ =>
    bd2 (F_X6_back v0 v1 v2 v4 S) fun t2 S3 =>
    (pk 6 S3 v0).bind fun _ =>
    bd2 (F_X6_back v0 v1 v2 v5 S3) fun t5 S6 =>
    if t2 < 0 then
      F_X6_likely_J30  S6
    else
      if 0 ≤ t5 then
        bd2 (F_X6_pair t2 t5 S6) fun t9 S10 =>
        (pk 6 S10 v0).bind fun _ =>
        bd2 (F_X6_get v0 v1 (((21 : Int32) + ((10 : Int32) * v3)) + t9) S10) fun t12 S13 =>
        some (t12, S13)
      else
        F_X6_likely_J30  S6
set_option maxRecDepth 100000 in
theorem T_X6_likely {g : GG} {l : Launch} (hl : l.stackTraces = false) {v0 : Nat} {v1 : Int32} {v2 : Int32} {v3 : Int32} {v4 : Int32} {v5 : Int32} {S S' : Mem} {r : Int32} (h : F_X6_likely v0 v1 v2 v3 v4 v5 S = some (r, S')) : Call g l uX6_likely [.ref v0, .int v1, .int v2, .int v3, .int v4, .int v5] S (cvI r) S' := by
  refine call_of (by decide +kernel) hl rfl (Nat.le_of_ble_eq_true rfl) ?_
  show Run g l uX6_likely _ 0 [(0, .ref v0), (1, .int v1), (2, .int v2), (3, .int v3), (4, .int v4), (5, .int v5)] [] 0 0 S
  unfold F_X6_likely at h
  refine r_aload_n dX6_likely_0 rfl 0 rfl ?_
  refine r_iload_n dX6_likely_1 rfl 1 rfl ?_
  refine r_iload_n dX6_likely_2 rfl 2 rfl ?_
  refine r_iload dX6_likely_3 4 rfl ?_
  obtain ⟨z1, hk, h⟩ := bd h
  obtain ⟨t2, S3, h0, h⟩ := bd2_s h
  refine r_invV (As := [.int v1, .int v2, .int v4]) (st := []) dX6_likely_5 lv6_108 (by unfold RM; decide) (Nat.le_of_ble_eq_true rfl) rfl rfl (pk_ok hk) (T_X6_back hl h0) ?_
  refine r_istore (lv' := [(6, .int t2), (0, .ref v0), (1, .int v1), (2, .int v2), (3, .int v3), (4, .int v4), (5, .int v5)]) dX6_likely_8 (by decide) rfl ?_
  refine r_aload_n dX6_likely_10 rfl 1 rfl ?_
  refine r_iload_n dX6_likely_11 rfl 2 rfl ?_
  refine r_iload_n dX6_likely_12 rfl 3 rfl ?_
  refine r_iload dX6_likely_13 6 rfl ?_
  obtain ⟨z4, hk, h⟩ := bd h
  obtain ⟨t5, S6, h0, h⟩ := bd2_s h
  refine r_invV (As := [.int v1, .int v2, .int v5]) (st := []) dX6_likely_15 lv6_108 (by unfold RM; decide) (Nat.le_of_ble_eq_true rfl) rfl rfl (pk_ok hk) (T_X6_back hl h0) ?_
  refine r_istore (lv' := [(7, .int t5), (6, .int t2), (0, .ref v0), (1, .int v1), (2, .int v2), (3, .int v3), (4, .int v4), (5, .int v5)]) dX6_likely_18 (by decide) rfl ?_
  refine r_iload dX6_likely_20 1 rfl ?_
  refine r_if_lt (tgt := 30) dX6_likely_22 (by decide) (fun c7 => ?_) (fun c7 => ?_)
  · rw [if_pos c7] at h
    refine r_sub [] rfl ?_
    exact T_X6_likely_J30 hl  S6 h
  · rw [if_neg c7] at h
    refine r_iload dX6_likely_25 0 rfl ?_
    refine r_if_ge (tgt := 36) dX6_likely_27 (by decide) (fun c8 => ?_) (fun c8 => ?_)
    · rw [if_pos c8] at h
      refine r_aload_n dX6_likely_36 rfl 2 rfl ?_
      refine r_iload_n dX6_likely_37 rfl 3 rfl ?_
      refine r_bipush (v := (21 : Int32)) dX6_likely_38 (by decide) ?_
      refine r_bipush (v := (10 : Int32)) dX6_likely_40 (by decide) ?_
      refine r_iload_n dX6_likely_42 rfl 5 rfl ?_
      refine r_imul dX6_likely_43 ?_
      refine r_iadd dX6_likely_44 ?_
      refine r_iload dX6_likely_45 1 rfl ?_
      refine r_iload dX6_likely_47 0 rfl ?_
      obtain ⟨t9, S10, h0, h⟩ := bd2_s h
      refine r_invS (As := [.int t2, .int t5]) (st := [.int ((21 : Int32) + ((10 : Int32) * v3)), .int v1, .ref v0]) dX6_likely_49 ls6_102 (by unfold RM; decide) (Nat.le_of_ble_eq_true rfl) rfl rfl (T_X6_pair hl h0) ?_
      refine r_iadd dX6_likely_52 ?_
      obtain ⟨z11, hk, h⟩ := bd h
      obtain ⟨t12, S13, h0, h⟩ := bd2_s h
      refine r_invV (As := [.int v1, .int (((21 : Int32) + ((10 : Int32) * v3)) + t9)]) (st := []) dX6_likely_53 lv6_33 (by unfold RM; decide) (Nat.le_of_ble_eq_true rfl) rfl rfl (pk_ok hk) (T_X6_get hl h0) ?_
      cases h
      exact r_ireturn dX6_likely_56 rfl rfl (by decide) (by decide)
    · rw [if_neg c8] at h
      refine r_sub [] rfl ?_
      exact T_X6_likely_J30 hl  S6 h

def F_X6_joinSample_J233 (K153 : Nat → Int32 → Int32 → Int32 → Int32 → Mem → Option Mem) (K168 : Nat → Int32 → Int32 → Int32 → Int32 → Int32 → Mem → Option Mem) (v0 : Nat) (v1 : Int32) (v2 : Int32) (v3 : Int32) (v4 : Int32) (v5 : Int32) (s0 : Nat) (s1 : Int32) (s2 : Int32) (s3 : Int32) (S : Mem) : Option Mem :=
    (pk 6 S s0).bind fun _ =>
    (F_X6_put s0 s1 s2 s3 S).bind fun S3 =>
    K168 v0 v1 v2 v3 v4 (v5 + 1) S3
set_option maxRecDepth 100000 in
theorem T_X6_joinSample_J233 {g : GG} {l : Launch} (hl : l.stackTraces = false) {S' : Mem}  {K153 : Nat → Int32 → Int32 → Int32 → Int32 → Mem → Option Mem} {K168 : Nat → Int32 → Int32 → Int32 → Int32 → Int32 → Mem → Option Mem} (hK153 : ∀ (v0 : Nat) (v1 : Int32) (v2 : Int32) (v3 : Int32) (v4 : Int32) (S : Mem), K153 v0 v1 v2 v3 v4 S = some S' → Run g l uX6_joinSample (fin g uX6_joinSample cvV S') 153 [(0, .ref v0), (1, .int v1), (2, .int v2), (3, .int v3), (4, .int v4)] [] 0 0 S) (hK168 : ∀ (v0 : Nat) (v1 : Int32) (v2 : Int32) (v3 : Int32) (v4 : Int32) (v5 : Int32) (S : Mem), K168 v0 v1 v2 v3 v4 v5 S = some S' → Run g l uX6_joinSample (fin g uX6_joinSample cvV S') 168 [(0, .ref v0), (1, .int v1), (2, .int v2), (3, .int v3), (4, .int v4), (5, .int v5)] [] 0 0 S) : ∀ (v0 : Nat) (v1 : Int32) (v2 : Int32) (v3 : Int32) (v4 : Int32) (v5 : Int32) (s0 : Nat) (s1 : Int32) (s2 : Int32) (s3 : Int32) (S : Mem), F_X6_joinSample_J233 K153 K168 v0 v1 v2 v3 v4 v5 s0 s1 s2 s3 S = some S' → Run g l uX6_joinSample (fin g uX6_joinSample cvV S') 233 [(0, .ref v0), (1, .int v1), (2, .int v2), (3, .int v3), (4, .int v4), (5, .int v5)] [.int s3, .int s2, .int s1, .ref s0] 0 0 S := by
  intro v0 v1 v2 v3 v4 v5 s0 s1 s2 s3 S h
  unfold F_X6_joinSample_J233 at h
  obtain ⟨z1, hk, h⟩ := bd h
  obtain ⟨S3, h0, h⟩ := bd h
  refine r_invV (As := [.int s1, .int s2, .int s3]) (st := []) dX6_joinSample_233 lv6_29 (by unfold RM; decide) (Nat.le_of_ble_eq_true rfl) rfl rfl (pk_ok hk) (T_X6_put hl h0) ?_
  refine r_iinc (v := v5 + 1) (lv' := [(5, .int (v5 + 1)), (0, .ref v0), (1, .int v1), (2, .int v2), (3, .int v3), (4, .int v4)]) dX6_joinSample_236 5 rfl rfl (by decide) rfl ?_
  refine r_goto (tgt := 168) dX6_joinSample_239 (by decide) ?_
  refine r_sub [1, 2, 3, 4, 5, 0] rfl ?_
  exact hK168 v0 v1 v2 v3 v4 (v5 + 1) S3 h

def F_X6_joinSample_L168 (K153 : Nat → Int32 → Int32 → Int32 → Int32 → Mem → Option Mem) : Nat → Nat → Int32 → Int32 → Int32 → Int32 → Int32 → Mem → Option Mem
  | 0, _, _, _, _, _, _, _ => none
  | fu + 1, v0, v1, v2, v3, v4, v5, S =>
    if v4 < v5 then
      K153 v0 v1 v2 v3 (v4 + 1) S
    else
      (pk 6 S v0).bind fun _ =>
      bd2 (F_X6_likely v0 v1 (0 : Int32) v3 v5 v4 S) fun t6 S7 =>
      (pk 6 S7 v0).bind fun _ =>
      bd2 (F_X6_likely v0 v2 (1 : Int32) v3 v5 v4 S7) fun t9 S10 =>
      bd2 (F_X6_pair v5 v4 S10) fun t11 S12 =>
      if t9 ≤ t6 then
        F_X6_joinSample_J233 K153 (F_X6_joinSample_L168 K153 fu) v0 v1 v2 v3 v4 v5 v0 (25 : Int32) (((21 : Int32) + ((10 : Int32) * v3)) + t11) t9 S12
      else
        F_X6_joinSample_J233 K153 (F_X6_joinSample_L168 K153 fu) v0 v1 v2 v3 v4 v5 v0 (25 : Int32) (((21 : Int32) + ((10 : Int32) * v3)) + t11) t6 S12
set_option maxRecDepth 100000 in
theorem T_X6_joinSample_L168 {g : GG} {l : Launch} (hl : l.stackTraces = false) {S' : Mem}  {K153 : Nat → Int32 → Int32 → Int32 → Int32 → Mem → Option Mem} (hK153 : ∀ (v0 : Nat) (v1 : Int32) (v2 : Int32) (v3 : Int32) (v4 : Int32) (S : Mem), K153 v0 v1 v2 v3 v4 S = some S' → Run g l uX6_joinSample (fin g uX6_joinSample cvV S') 153 [(0, .ref v0), (1, .int v1), (2, .int v2), (3, .int v3), (4, .int v4)] [] 0 0 S) : ∀ (fu : Nat) (v0 : Nat) (v1 : Int32) (v2 : Int32) (v3 : Int32) (v4 : Int32) (v5 : Int32) (S : Mem), F_X6_joinSample_L168 K153 fu v0 v1 v2 v3 v4 v5 S = some S' → Run g l uX6_joinSample (fin g uX6_joinSample cvV S') 168 [(0, .ref v0), (1, .int v1), (2, .int v2), (3, .int v3), (4, .int v4), (5, .int v5)] [] 0 0 S := by
  intro fu
  induction fu with
  | zero =>
    intro v0 v1 v2 v3 v4 v5 S h
    cases (show none = some _ from h)
  | succ fu ih =>
    intro v0 v1 v2 v3 v4 v5 S h
    unfold F_X6_joinSample_L168 at h
    refine r_iload dX6_joinSample_168 5 rfl ?_
    refine r_iload dX6_joinSample_170 4 rfl ?_
    refine r_icmp_gt (tgt := 242) dX6_joinSample_172 (by decide) (fun c4 => ?_) (fun c4 => ?_)
    · rw [if_pos c4] at h
      refine r_iinc (v := v4 + 1) (lv' := [(4, .int (v4 + 1)), (0, .ref v0), (1, .int v1), (2, .int v2), (3, .int v3), (5, .int v5)]) dX6_joinSample_242 4 rfl rfl (by decide) rfl ?_
      refine r_goto (tgt := 153) dX6_joinSample_245 (by decide) ?_
      refine r_sub [1, 2, 3, 4, 0] rfl ?_
      exact hK153 v0 v1 v2 v3 (v4 + 1) S h
    · rw [if_neg c4] at h
      refine r_aload_n dX6_joinSample_175 rfl 0 rfl ?_
      refine r_iload_n dX6_joinSample_176 rfl 1 rfl ?_
      refine r_iconst (v := (0 : Int32)) dX6_joinSample_177 (by decide) ?_
      refine r_iload_n dX6_joinSample_178 rfl 3 rfl ?_
      refine r_iload dX6_joinSample_179 5 rfl ?_
      refine r_iload dX6_joinSample_181 4 rfl ?_
      obtain ⟨z5, hk, h⟩ := bd h
      obtain ⟨t6, S7, h0, h⟩ := bd2_s h
      refine r_invV (As := [.int v1, .int ((0 : Int32)), .int v3, .int v5, .int v4]) (st := []) dX6_joinSample_183 lv6_111 (by unfold RM; decide) (Nat.le_of_ble_eq_true rfl) rfl rfl (pk_ok hk) (T_X6_likely hl h0) ?_
      refine r_istore (lv' := [(6, .int t6), (0, .ref v0), (1, .int v1), (2, .int v2), (3, .int v3), (4, .int v4), (5, .int v5)]) dX6_joinSample_186 (by decide) rfl ?_
      refine r_aload_n dX6_joinSample_188 rfl 1 rfl ?_
      refine r_iload_n dX6_joinSample_189 rfl 3 rfl ?_
      refine r_iconst (v := (1 : Int32)) dX6_joinSample_190 (by decide) ?_
      refine r_iload_n dX6_joinSample_191 rfl 4 rfl ?_
      refine r_iload dX6_joinSample_192 6 rfl ?_
      refine r_iload dX6_joinSample_194 5 rfl ?_
      obtain ⟨z8, hk, h⟩ := bd h
      obtain ⟨t9, S10, h0, h⟩ := bd2_s h
      refine r_invV (As := [.int v2, .int ((1 : Int32)), .int v3, .int v5, .int v4]) (st := []) dX6_joinSample_196 lv6_111 (by unfold RM; decide) (Nat.le_of_ble_eq_true rfl) rfl rfl (pk_ok hk) (T_X6_likely hl h0) ?_
      refine r_istore (lv' := [(7, .int t9), (6, .int t6), (0, .ref v0), (1, .int v1), (2, .int v2), (3, .int v3), (4, .int v4), (5, .int v5)]) dX6_joinSample_199 (by decide) rfl ?_
      refine r_aload_n dX6_joinSample_201 rfl 2 rfl ?_
      refine r_bipush (v := (25 : Int32)) dX6_joinSample_202 (by decide) ?_
      refine r_bipush (v := (21 : Int32)) dX6_joinSample_204 (by decide) ?_
      refine r_bipush (v := (10 : Int32)) dX6_joinSample_206 (by decide) ?_
      refine r_iload_n dX6_joinSample_208 rfl 5 rfl ?_
      refine r_imul dX6_joinSample_209 ?_
      refine r_iadd dX6_joinSample_210 ?_
      refine r_iload dX6_joinSample_211 7 rfl ?_
      refine r_iload dX6_joinSample_213 6 rfl ?_
      obtain ⟨t11, S12, h0, h⟩ := bd2_s h
      refine r_invS (As := [.int v5, .int v4]) (st := [.int ((21 : Int32) + ((10 : Int32) * v3)), .int ((25 : Int32)), .ref v0]) dX6_joinSample_215 ls6_102 (by unfold RM; decide) (Nat.le_of_ble_eq_true rfl) rfl rfl (T_X6_pair hl h0) ?_
      refine r_iadd dX6_joinSample_218 ?_
      refine r_iload dX6_joinSample_219 1 rfl ?_
      refine r_iload dX6_joinSample_221 0 rfl ?_
      refine r_icmp_ge (tgt := 231) dX6_joinSample_223 (by decide) (fun c13 => ?_) (fun c13 => ?_)
      · rw [if_pos c13] at h
        refine r_iload dX6_joinSample_231 0 rfl ?_
        refine r_sub [2, 3, 4, 5, 6, 7] rfl ?_
        exact T_X6_joinSample_J233 hl hK153 (fun v0 v1 v2 v3 v4 v5 S h => ih v0 v1 v2 v3 v4 v5 S h) v0 v1 v2 v3 v4 v5 v0 (25 : Int32) (((21 : Int32) + ((10 : Int32) * v3)) + t11) t9 S12 h
      · rw [if_neg c13] at h
        refine r_iload dX6_joinSample_226 1 rfl ?_
        refine r_goto (tgt := 233) dX6_joinSample_228 (by decide) ?_
        refine r_sub [2, 3, 4, 5, 6, 7] rfl ?_
        exact T_X6_joinSample_J233 hl hK153 (fun v0 v1 v2 v3 v4 v5 S h => ih v0 v1 v2 v3 v4 v5 S h) v0 v1 v2 v3 v4 v5 v0 (25 : Int32) (((21 : Int32) + ((10 : Int32) * v3)) + t11) t6 S12 h

def F_X6_joinSample_L153 : Nat → Nat → Int32 → Int32 → Int32 → Int32 → Mem → Option Mem
  | 0, _, _, _, _, _, _ => none
  | fu + 1, v0, v1, v2, v3, v4, S =>
    (pk 6 S v0).bind fun _ =>
    bd2 (F_X6_get v0 (25 : Int32) (1 : Int32) S) fun t15 S16 =>
    if t15 ≤ v4 then
      some S16
    else
      F_X6_joinSample_L168 (F_X6_joinSample_L153 fu) FU v0 v1 v2 v3 v4 (0 : Int32) S16
set_option maxRecDepth 100000 in
theorem T_X6_joinSample_L153 {g : GG} {l : Launch} (hl : l.stackTraces = false) {S' : Mem}  : ∀ (fu : Nat) (v0 : Nat) (v1 : Int32) (v2 : Int32) (v3 : Int32) (v4 : Int32) (S : Mem), F_X6_joinSample_L153 fu v0 v1 v2 v3 v4 S = some S' → Run g l uX6_joinSample (fin g uX6_joinSample cvV S') 153 [(0, .ref v0), (1, .int v1), (2, .int v2), (3, .int v3), (4, .int v4)] [] 0 0 S := by
  intro fu
  induction fu with
  | zero =>
    intro v0 v1 v2 v3 v4 S h
    cases (show none = some _ from h)
  | succ fu ih =>
    intro v0 v1 v2 v3 v4 S h
    unfold F_X6_joinSample_L153 at h
    refine r_iload dX6_joinSample_153 4 rfl ?_
    refine r_aload_n dX6_joinSample_155 rfl 0 rfl ?_
    refine r_bipush (v := (25 : Int32)) dX6_joinSample_156 (by decide) ?_
    refine r_iconst (v := (1 : Int32)) dX6_joinSample_158 (by decide) ?_
    obtain ⟨z14, hk, h⟩ := bd h
    obtain ⟨t15, S16, h0, h⟩ := bd2_s h
    refine r_invV (As := [.int ((25 : Int32)), .int ((1 : Int32))]) (st := [.int v4]) dX6_joinSample_159 lv6_33 (by unfold RM; decide) (Nat.le_of_ble_eq_true rfl) rfl rfl (pk_ok hk) (T_X6_get hl h0) ?_
    refine r_icmp_ge (tgt := 248) dX6_joinSample_162 (by decide) (fun c17 => ?_) (fun c17 => ?_)
    · rw [if_pos c17] at h
      cases h
      exact r_return dX6_joinSample_248 rfl (by decide) (by decide)
    · rw [if_neg c17] at h
      refine r_iconst (v := (0 : Int32)) dX6_joinSample_165 (by decide) ?_
      refine r_istore (lv' := [(5, .int ((0 : Int32))), (0, .ref v0), (1, .int v1), (2, .int v2), (3, .int v3), (4, .int v4)]) dX6_joinSample_166 (by decide) rfl ?_
      refine r_sub [1, 2, 3, 4, 5, 0] rfl ?_
      exact T_X6_joinSample_L168 hl (fun v0 v1 v2 v3 v4 S h => ih v0 v1 v2 v3 v4 S h) FU v0 v1 v2 v3 v4 (0 : Int32) S16 h

def F_X6_joinSample_J100 (K3 : Nat → Int32 → Int32 → Int32 → Int32 → Mem → Option Mem) (v0 : Nat) (v1 : Int32) (v2 : Int32) (v3 : Int32) (v4 : Int32) (s0 : Nat) (s1 : Int32) (s2 : Int32) (s3 : Int32) (S : Mem) : Option Mem :=
    (pk 6 S s0).bind fun _ =>
    (F_X6_put s0 s1 s2 s3 S).bind fun S20 =>
    K3 v0 v1 v2 v3 (v4 + 1) S20
set_option maxRecDepth 100000 in
theorem T_X6_joinSample_J100 {g : GG} {l : Launch} (hl : l.stackTraces = false) {S' : Mem}  {K3 : Nat → Int32 → Int32 → Int32 → Int32 → Mem → Option Mem} (hK3 : ∀ (v0 : Nat) (v1 : Int32) (v2 : Int32) (v3 : Int32) (v4 : Int32) (S : Mem), K3 v0 v1 v2 v3 v4 S = some S' → Run g l uX6_joinSample (fin g uX6_joinSample cvV S') 3 [(0, .ref v0), (1, .int v1), (2, .int v2), (3, .int v3), (4, .int v4)] [] 0 0 S) : ∀ (v0 : Nat) (v1 : Int32) (v2 : Int32) (v3 : Int32) (v4 : Int32) (s0 : Nat) (s1 : Int32) (s2 : Int32) (s3 : Int32) (S : Mem), F_X6_joinSample_J100 K3 v0 v1 v2 v3 v4 s0 s1 s2 s3 S = some S' → Run g l uX6_joinSample (fin g uX6_joinSample cvV S') 100 [(0, .ref v0), (1, .int v1), (2, .int v2), (3, .int v3), (4, .int v4)] [.int s3, .int s2, .int s1, .ref s0] 0 0 S := by
  intro v0 v1 v2 v3 v4 s0 s1 s2 s3 S h
  unfold F_X6_joinSample_J100 at h
  obtain ⟨z18, hk, h⟩ := bd h
  obtain ⟨S20, h0, h⟩ := bd h
  refine r_invV (As := [.int s1, .int s2, .int s3]) (st := []) dX6_joinSample_100 lv6_29 (by unfold RM; decide) (Nat.le_of_ble_eq_true rfl) rfl rfl (pk_ok hk) (T_X6_put hl h0) ?_
  refine r_iinc (v := v4 + 1) (lv' := [(4, .int (v4 + 1)), (0, .ref v0), (1, .int v1), (2, .int v2), (3, .int v3)]) dX6_joinSample_103 4 rfl rfl (by decide) rfl ?_
  refine r_goto (tgt := 3) dX6_joinSample_106 (by decide) ?_
  refine r_sub [1, 2, 3, 4, 0] rfl ?_
  exact hK3 v0 v1 v2 v3 (v4 + 1) S20 h

def F_X6_joinSample_J99 (K3 : Nat → Int32 → Int32 → Int32 → Int32 → Mem → Option Mem) (v0 : Nat) (v1 : Int32) (v2 : Int32) (v3 : Int32) (v4 : Int32) (s0 : Nat) (s1 : Int32) (s2 : Int32) (S : Mem) : Option Mem :=
    F_X6_joinSample_J100 K3 v0 v1 v2 v3 v4 s0 s1 s2 (0 : Int32) S
set_option maxRecDepth 100000 in
theorem T_X6_joinSample_J99 {g : GG} {l : Launch} (hl : l.stackTraces = false) {S' : Mem}  {K3 : Nat → Int32 → Int32 → Int32 → Int32 → Mem → Option Mem} (hK3 : ∀ (v0 : Nat) (v1 : Int32) (v2 : Int32) (v3 : Int32) (v4 : Int32) (S : Mem), K3 v0 v1 v2 v3 v4 S = some S' → Run g l uX6_joinSample (fin g uX6_joinSample cvV S') 3 [(0, .ref v0), (1, .int v1), (2, .int v2), (3, .int v3), (4, .int v4)] [] 0 0 S) : ∀ (v0 : Nat) (v1 : Int32) (v2 : Int32) (v3 : Int32) (v4 : Int32) (s0 : Nat) (s1 : Int32) (s2 : Int32) (S : Mem), F_X6_joinSample_J99 K3 v0 v1 v2 v3 v4 s0 s1 s2 S = some S' → Run g l uX6_joinSample (fin g uX6_joinSample cvV S') 99 [(0, .ref v0), (1, .int v1), (2, .int v2), (3, .int v3), (4, .int v4)] [.int s2, .int s1, .ref s0] 0 0 S := by
  intro v0 v1 v2 v3 v4 s0 s1 s2 S h
  unfold F_X6_joinSample_J99 at h
  refine r_iconst (v := (0 : Int32)) dX6_joinSample_99 (by decide) ?_
  exact T_X6_joinSample_J100 hl hK3 v0 v1 v2 v3 v4 s0 s1 s2 (0 : Int32) S h

def F_X6_joinSample_L3 : Nat → Nat → Int32 → Int32 → Int32 → Int32 → Mem → Option Mem
  | 0, _, _, _, _, _, _ => none
  | fu + 1, v0, v1, v2, v3, v4, S =>
    if (2 : Int32) ≤ v4 then
      (pk 6 S v0).bind fun _ =>
      bd2 (F_X6_get v0 v1 (((15 : Int32) + ((3 : Int32) * v3)) + (2 : Int32)) S) fun t23 S24 =>
      (pk 6 S24 v0).bind fun _ =>
      bd2 (F_X6_get v0 v2 (((15 : Int32) + ((3 : Int32) * v3)) + (2 : Int32)) S24) fun t26 S27 =>
      (pk 6 S27 v0).bind fun _ =>
      (F_X6_put v0 (25 : Int32) (((15 : Int32) + ((3 : Int32) * v3)) + (2 : Int32)) (t23 * t26) S27).bind fun S30 =>
      F_X6_joinSample_L153 FU v0 v1 v2 v3 (0 : Int32) S30
    else
      (pk 6 S v0).bind fun _ =>
      bd2 (F_X6_get v0 v1 (((15 : Int32) + ((3 : Int32) * v3)) + v4) S) fun t32 S33 =>
      (pk 6 S33 v0).bind fun _ =>
      bd2 (F_X6_get v0 v2 (((15 : Int32) + ((3 : Int32) * v3)) + v4) S33) fun t35 S36 =>
      if t32 ≤ 0 then
        if t35 ≤ 0 then
          if 0 ≤ t32 then
            F_X6_joinSample_J99 (F_X6_joinSample_L3 fu) v0 v1 v2 v3 v4 v0 (25 : Int32) (((15 : Int32) + ((3 : Int32) * v3)) + v4) S36
          else
            if 0 ≤ t35 then
              F_X6_joinSample_J99 (F_X6_joinSample_L3 fu) v0 v1 v2 v3 v4 v0 (25 : Int32) (((15 : Int32) + ((3 : Int32) * v3)) + v4) S36
            else
              F_X6_joinSample_J100 (F_X6_joinSample_L3 fu) v0 v1 v2 v3 v4 v0 (25 : Int32) (((15 : Int32) + ((3 : Int32) * v3)) + v4) (-1 : Int32) S36
        else
          (pgR 6 10 S36 v0).bind fun t41 =>
          (paI S36 t41 ((4 : Int32) + t35)).bind fun t42 =>
          F_X6_joinSample_J100 (F_X6_joinSample_L3 fu) v0 v1 v2 v3 v4 v0 (25 : Int32) (((15 : Int32) + ((3 : Int32) * v3)) + v4) t42 S36
      else
        (pgR 6 10 S36 v0).bind fun t43 =>
        (paI S36 t43 t32).bind fun t44 =>
        F_X6_joinSample_J100 (F_X6_joinSample_L3 fu) v0 v1 v2 v3 v4 v0 (25 : Int32) (((15 : Int32) + ((3 : Int32) * v3)) + v4) t44 S36
set_option maxRecDepth 100000 in
theorem T_X6_joinSample_L3 {g : GG} {l : Launch} (hl : l.stackTraces = false) {S' : Mem}  : ∀ (fu : Nat) (v0 : Nat) (v1 : Int32) (v2 : Int32) (v3 : Int32) (v4 : Int32) (S : Mem), F_X6_joinSample_L3 fu v0 v1 v2 v3 v4 S = some S' → Run g l uX6_joinSample (fin g uX6_joinSample cvV S') 3 [(0, .ref v0), (1, .int v1), (2, .int v2), (3, .int v3), (4, .int v4)] [] 0 0 S := by
  intro fu
  induction fu with
  | zero =>
    intro v0 v1 v2 v3 v4 S h
    cases (show none = some _ from h)
  | succ fu ih =>
    intro v0 v1 v2 v3 v4 S h
    unfold F_X6_joinSample_L3 at h
    refine r_iload dX6_joinSample_3 4 rfl ?_
    refine r_iconst (v := (2 : Int32)) dX6_joinSample_5 (by decide) ?_
    refine r_icmp_ge (tgt := 109) dX6_joinSample_6 (by decide) (fun c21 => ?_) (fun c21 => ?_)
    · rw [if_pos c21] at h
      refine r_aload_n dX6_joinSample_109 rfl 0 rfl ?_
      refine r_bipush (v := (25 : Int32)) dX6_joinSample_110 (by decide) ?_
      refine r_bipush (v := (15 : Int32)) dX6_joinSample_112 (by decide) ?_
      refine r_iconst (v := (3 : Int32)) dX6_joinSample_114 (by decide) ?_
      refine r_iload_n dX6_joinSample_115 rfl 3 rfl ?_
      refine r_imul dX6_joinSample_116 ?_
      refine r_iadd dX6_joinSample_117 ?_
      refine r_iconst (v := (2 : Int32)) dX6_joinSample_118 (by decide) ?_
      refine r_iadd dX6_joinSample_119 ?_
      refine r_aload_n dX6_joinSample_120 rfl 0 rfl ?_
      refine r_iload_n dX6_joinSample_121 rfl 1 rfl ?_
      refine r_bipush (v := (15 : Int32)) dX6_joinSample_122 (by decide) ?_
      refine r_iconst (v := (3 : Int32)) dX6_joinSample_124 (by decide) ?_
      refine r_iload_n dX6_joinSample_125 rfl 3 rfl ?_
      refine r_imul dX6_joinSample_126 ?_
      refine r_iadd dX6_joinSample_127 ?_
      refine r_iconst (v := (2 : Int32)) dX6_joinSample_128 (by decide) ?_
      refine r_iadd dX6_joinSample_129 ?_
      obtain ⟨z22, hk, h⟩ := bd h
      obtain ⟨t23, S24, h0, h⟩ := bd2_s h
      refine r_invV (As := [.int v1, .int (((15 : Int32) + ((3 : Int32) * v3)) + (2 : Int32))]) (st := [.int (((15 : Int32) + ((3 : Int32) * v3)) + (2 : Int32)), .int ((25 : Int32)), .ref v0]) dX6_joinSample_130 lv6_33 (by unfold RM; decide) (Nat.le_of_ble_eq_true rfl) rfl rfl (pk_ok hk) (T_X6_get hl h0) ?_
      refine r_aload_n dX6_joinSample_133 rfl 0 rfl ?_
      refine r_iload_n dX6_joinSample_134 rfl 2 rfl ?_
      refine r_bipush (v := (15 : Int32)) dX6_joinSample_135 (by decide) ?_
      refine r_iconst (v := (3 : Int32)) dX6_joinSample_137 (by decide) ?_
      refine r_iload_n dX6_joinSample_138 rfl 3 rfl ?_
      refine r_imul dX6_joinSample_139 ?_
      refine r_iadd dX6_joinSample_140 ?_
      refine r_iconst (v := (2 : Int32)) dX6_joinSample_141 (by decide) ?_
      refine r_iadd dX6_joinSample_142 ?_
      obtain ⟨z25, hk, h⟩ := bd h
      obtain ⟨t26, S27, h0, h⟩ := bd2_s h
      refine r_invV (As := [.int v2, .int (((15 : Int32) + ((3 : Int32) * v3)) + (2 : Int32))]) (st := [.int t23, .int (((15 : Int32) + ((3 : Int32) * v3)) + (2 : Int32)), .int ((25 : Int32)), .ref v0]) dX6_joinSample_143 lv6_33 (by unfold RM; decide) (Nat.le_of_ble_eq_true rfl) rfl rfl (pk_ok hk) (T_X6_get hl h0) ?_
      refine r_imul dX6_joinSample_146 ?_
      obtain ⟨z28, hk, h⟩ := bd h
      obtain ⟨S30, h0, h⟩ := bd h
      refine r_invV (As := [.int ((25 : Int32)), .int (((15 : Int32) + ((3 : Int32) * v3)) + (2 : Int32)), .int (t23 * t26)]) (st := []) dX6_joinSample_147 lv6_29 (by unfold RM; decide) (Nat.le_of_ble_eq_true rfl) rfl rfl (pk_ok hk) (T_X6_put hl h0) ?_
      refine r_iconst (v := (0 : Int32)) dX6_joinSample_150 (by decide) ?_
      refine r_istore (lv' := [(4, .int ((0 : Int32))), (0, .ref v0), (1, .int v1), (2, .int v2), (3, .int v3)]) dX6_joinSample_151 (by decide) rfl ?_
      refine r_sub [1, 2, 3, 4, 0] rfl ?_
      exact T_X6_joinSample_L153 hl FU v0 v1 v2 v3 (0 : Int32) S30 h
    · rw [if_neg c21] at h
      refine r_aload_n dX6_joinSample_9 rfl 0 rfl ?_
      refine r_iload_n dX6_joinSample_10 rfl 1 rfl ?_
      refine r_bipush (v := (15 : Int32)) dX6_joinSample_11 (by decide) ?_
      refine r_iconst (v := (3 : Int32)) dX6_joinSample_13 (by decide) ?_
      refine r_iload_n dX6_joinSample_14 rfl 3 rfl ?_
      refine r_imul dX6_joinSample_15 ?_
      refine r_iadd dX6_joinSample_16 ?_
      refine r_iload dX6_joinSample_17 4 rfl ?_
      refine r_iadd dX6_joinSample_19 ?_
      obtain ⟨z31, hk, h⟩ := bd h
      obtain ⟨t32, S33, h0, h⟩ := bd2_s h
      refine r_invV (As := [.int v1, .int (((15 : Int32) + ((3 : Int32) * v3)) + v4)]) (st := []) dX6_joinSample_20 lv6_33 (by unfold RM; decide) (Nat.le_of_ble_eq_true rfl) rfl rfl (pk_ok hk) (T_X6_get hl h0) ?_
      refine r_istore (lv' := [(5, .int t32), (0, .ref v0), (1, .int v1), (2, .int v2), (3, .int v3), (4, .int v4)]) dX6_joinSample_23 (by decide) rfl ?_
      refine r_aload_n dX6_joinSample_25 rfl 1 rfl ?_
      refine r_iload_n dX6_joinSample_26 rfl 3 rfl ?_
      refine r_bipush (v := (15 : Int32)) dX6_joinSample_27 (by decide) ?_
      refine r_iconst (v := (3 : Int32)) dX6_joinSample_29 (by decide) ?_
      refine r_iload_n dX6_joinSample_30 rfl 4 rfl ?_
      refine r_imul dX6_joinSample_31 ?_
      refine r_iadd dX6_joinSample_32 ?_
      refine r_iload dX6_joinSample_33 5 rfl ?_
      refine r_iadd dX6_joinSample_35 ?_
      obtain ⟨z34, hk, h⟩ := bd h
      obtain ⟨t35, S36, h0, h⟩ := bd2_s h
      refine r_invV (As := [.int v2, .int (((15 : Int32) + ((3 : Int32) * v3)) + v4)]) (st := []) dX6_joinSample_36 lv6_33 (by unfold RM; decide) (Nat.le_of_ble_eq_true rfl) rfl rfl (pk_ok hk) (T_X6_get hl h0) ?_
      refine r_istore (lv' := [(6, .int t35), (5, .int t32), (0, .ref v0), (1, .int v1), (2, .int v2), (3, .int v3), (4, .int v4)]) dX6_joinSample_39 (by decide) rfl ?_
      refine r_aload_n dX6_joinSample_41 rfl 2 rfl ?_
      refine r_bipush (v := (25 : Int32)) dX6_joinSample_42 (by decide) ?_
      refine r_bipush (v := (15 : Int32)) dX6_joinSample_44 (by decide) ?_
      refine r_iconst (v := (3 : Int32)) dX6_joinSample_46 (by decide) ?_
      refine r_iload_n dX6_joinSample_47 rfl 5 rfl ?_
      refine r_imul dX6_joinSample_48 ?_
      refine r_iadd dX6_joinSample_49 ?_
      refine r_iload dX6_joinSample_50 6 rfl ?_
      refine r_iadd dX6_joinSample_52 ?_
      refine r_iload dX6_joinSample_53 1 rfl ?_
      refine r_if_le (tgt := 68) dX6_joinSample_55 (by decide) (fun c37 => ?_) (fun c37 => ?_)
      · rw [if_pos c37] at h
        refine r_iload dX6_joinSample_68 0 rfl ?_
        refine r_if_le (tgt := 85) dX6_joinSample_70 (by decide) (fun c38 => ?_) (fun c38 => ?_)
        · rw [if_pos c38] at h
          refine r_iload dX6_joinSample_85 1 rfl ?_
          refine r_if_ge (tgt := 99) dX6_joinSample_87 (by decide) (fun c39 => ?_) (fun c39 => ?_)
          · rw [if_pos c39] at h
            refine r_sub [2, 3, 4, 5, 6] rfl ?_
            exact T_X6_joinSample_J99 hl (fun v0 v1 v2 v3 v4 S h => ih v0 v1 v2 v3 v4 S h) v0 v1 v2 v3 v4 v0 (25 : Int32) (((15 : Int32) + ((3 : Int32) * v3)) + v4) S36 h
          · rw [if_neg c39] at h
            refine r_iload dX6_joinSample_90 0 rfl ?_
            refine r_if_ge (tgt := 99) dX6_joinSample_92 (by decide) (fun c40 => ?_) (fun c40 => ?_)
            · rw [if_pos c40] at h
              refine r_sub [2, 3, 4, 5, 6] rfl ?_
              exact T_X6_joinSample_J99 hl (fun v0 v1 v2 v3 v4 S h => ih v0 v1 v2 v3 v4 S h) v0 v1 v2 v3 v4 v0 (25 : Int32) (((15 : Int32) + ((3 : Int32) * v3)) + v4) S36 h
            · rw [if_neg c40] at h
              refine r_iconst (v := (-1 : Int32)) dX6_joinSample_95 (by decide) ?_
              refine r_goto (tgt := 100) dX6_joinSample_96 (by decide) ?_
              refine r_sub [2, 3, 4, 5, 6] rfl ?_
              exact T_X6_joinSample_J100 hl (fun v0 v1 v2 v3 v4 S h => ih v0 v1 v2 v3 v4 S h) v0 v1 v2 v3 v4 v0 (25 : Int32) (((15 : Int32) + ((3 : Int32) * v3)) + v4) (-1 : Int32) S36 h
        · rw [if_neg c38] at h
          refine r_aload_n dX6_joinSample_73 rfl 2 rfl ?_
          obtain ⟨t41, h0, h⟩ := bd h
          refine q_getR h0 dX6_joinSample_74 fl6_22 rfl ?_
          refine r_iconst (v := (4 : Int32)) dX6_joinSample_77 (by decide) ?_
          refine r_iload dX6_joinSample_78 0 rfl ?_
          refine r_iadd dX6_joinSample_80 ?_
          obtain ⟨t42, h0, h⟩ := bd h
          refine q_iaload h0 dX6_joinSample_81 ?_
          refine r_goto (tgt := 100) dX6_joinSample_82 (by decide) ?_
          refine r_sub [2, 3, 4, 5, 6] rfl ?_
          exact T_X6_joinSample_J100 hl (fun v0 v1 v2 v3 v4 S h => ih v0 v1 v2 v3 v4 S h) v0 v1 v2 v3 v4 v0 (25 : Int32) (((15 : Int32) + ((3 : Int32) * v3)) + v4) t42 S36 h
      · rw [if_neg c37] at h
        refine r_aload_n dX6_joinSample_58 rfl 2 rfl ?_
        obtain ⟨t43, h0, h⟩ := bd h
        refine q_getR h0 dX6_joinSample_59 fl6_22 rfl ?_
        refine r_iload dX6_joinSample_62 1 rfl ?_
        obtain ⟨t44, h0, h⟩ := bd h
        refine q_iaload h0 dX6_joinSample_64 ?_
        refine r_goto (tgt := 100) dX6_joinSample_65 (by decide) ?_
        refine r_sub [2, 3, 4, 5, 6] rfl ?_
        exact T_X6_joinSample_J100 hl (fun v0 v1 v2 v3 v4 S h => ih v0 v1 v2 v3 v4 S h) v0 v1 v2 v3 v4 v0 (25 : Int32) (((15 : Int32) + ((3 : Int32) * v3)) + v4) t44 S36 h

def F_X6_joinSample (v0 : Nat) (v1 : Int32) (v2 : Int32) (v3 : Int32) (S : Mem) : Option Mem :=
    F_X6_joinSample_L3 FU v0 v1 v2 v3 (0 : Int32) S
set_option maxRecDepth 100000 in
theorem T_X6_joinSample {g : GG} {l : Launch} (hl : l.stackTraces = false) {v0 : Nat} {v1 : Int32} {v2 : Int32} {v3 : Int32} {S S' : Mem} (h : F_X6_joinSample v0 v1 v2 v3 S = some S') : Call g l uX6_joinSample [.ref v0, .int v1, .int v2, .int v3] S cvV S' := by
  refine call_of (by decide +kernel) hl rfl (Nat.le_of_ble_eq_true rfl) ?_
  show Run g l uX6_joinSample _ 0 [(0, .ref v0), (1, .int v1), (2, .int v2), (3, .int v3)] [] 0 0 S
  unfold F_X6_joinSample at h
  refine r_iconst (v := (0 : Int32)) dX6_joinSample_0 (by decide) ?_
  refine r_istore (lv' := [(4, .int ((0 : Int32))), (0, .ref v0), (1, .int v1), (2, .int v2), (3, .int v3)]) dX6_joinSample_1 (by decide) rfl ?_
  refine r_sub [1, 2, 3, 4, 0] rfl ?_
  exact T_X6_joinSample_L3 hl FU v0 v1 v2 v3 (0 : Int32) S h

def F_X6_join_J354 (K220 : Nat → Int32 → Int32 → Int32 → Int32 → Mem → Option Mem) (v0 : Nat) (v1 : Int32) (v4 : Int32) (v5 : Int32) (v8 : Int32) (s0 : Nat) (s1 : Int32) (s2 : Int32) (s3 : Int32) (S : Mem) : Option Mem :=
    (pk 6 S s0).bind fun _ =>
    (F_X6_put s0 s1 s2 s3 S).bind fun S3 =>
    K220 v0 v1 v4 v5 (v8 + 1) S3
set_option maxRecDepth 100000 in
theorem T_X6_join_J354 {g : GG} {l : Launch} (hl : l.stackTraces = false) {S' : Mem}  {K220 : Nat → Int32 → Int32 → Int32 → Int32 → Mem → Option Mem} (hK220 : ∀ (v0 : Nat) (v1 : Int32) (v4 : Int32) (v5 : Int32) (v8 : Int32) (S : Mem), K220 v0 v1 v4 v5 v8 S = some S' → Run g l uX6_join (fin g uX6_join cvV S') 220 [(0, .ref v0), (1, .int v1), (4, .int v4), (5, .int v5), (8, .int v8)] [] 0 0 S) : ∀ (v0 : Nat) (v1 : Int32) (v4 : Int32) (v5 : Int32) (v8 : Int32) (s0 : Nat) (s1 : Int32) (s2 : Int32) (s3 : Int32) (S : Mem), F_X6_join_J354 K220 v0 v1 v4 v5 v8 s0 s1 s2 s3 S = some S' → Run g l uX6_join (fin g uX6_join cvV S') 354 [(0, .ref v0), (1, .int v1), (4, .int v4), (5, .int v5), (8, .int v8)] [.int s3, .int s2, .int s1, .ref s0] 0 0 S := by
  intro v0 v1 v4 v5 v8 s0 s1 s2 s3 S h
  unfold F_X6_join_J354 at h
  obtain ⟨z1, hk, h⟩ := bd h
  obtain ⟨S3, h0, h⟩ := bd h
  refine r_invV (As := [.int s1, .int s2, .int s3]) (st := []) dX6_join_354 lv6_29 (by unfold RM; decide) (Nat.le_of_ble_eq_true rfl) rfl rfl (pk_ok hk) (T_X6_put hl h0) ?_
  refine r_iinc (v := v8 + 1) (lv' := [(8, .int (v8 + 1)), (0, .ref v0), (1, .int v1), (4, .int v4), (5, .int v5)]) dX6_join_357 4 rfl rfl (by decide) rfl ?_
  refine r_goto (tgt := 220) dX6_join_360 (by decide) ?_
  refine r_sub [1, 2, 3, 4, 0] rfl ?_
  exact hK220 v0 v1 v4 v5 (v8 + 1) S3 h

def F_X6_join_J320 (K220 : Nat → Int32 → Int32 → Int32 → Int32 → Mem → Option Mem) (v0 : Nat) (v1 : Int32) (v4 : Int32) (v5 : Int32) (v8 : Int32) (v11 : Int32) (v12 : Int32) (s0 : Int32) (S : Mem) : Option Mem :=
    if v8 ≤ 0 then
      if v11 ≤ v12 then
        F_X6_join_J354 K220 v0 v1 v4 v5 v8 v0 (25 : Int32) ((11 : Int32) + v8) v12 S
      else
        F_X6_join_J354 K220 v0 v1 v4 v5 v8 v0 (25 : Int32) ((11 : Int32) + v8) v11 S
    else
      F_X6_join_J354 K220 v0 v1 v4 v5 v8 v0 (25 : Int32) ((11 : Int32) + v8) s0 S
set_option maxRecDepth 100000 in
theorem T_X6_join_J320 {g : GG} {l : Launch} (hl : l.stackTraces = false) {S' : Mem}  {K220 : Nat → Int32 → Int32 → Int32 → Int32 → Mem → Option Mem} (hK220 : ∀ (v0 : Nat) (v1 : Int32) (v4 : Int32) (v5 : Int32) (v8 : Int32) (S : Mem), K220 v0 v1 v4 v5 v8 S = some S' → Run g l uX6_join (fin g uX6_join cvV S') 220 [(0, .ref v0), (1, .int v1), (4, .int v4), (5, .int v5), (8, .int v8)] [] 0 0 S) : ∀ (v0 : Nat) (v1 : Int32) (v4 : Int32) (v5 : Int32) (v8 : Int32) (v11 : Int32) (v12 : Int32) (s0 : Int32) (S : Mem), F_X6_join_J320 K220 v0 v1 v4 v5 v8 v11 v12 s0 S = some S' → Run g l uX6_join (fin g uX6_join cvV S') 320 [(0, .ref v0), (1, .int v1), (4, .int v4), (5, .int v5), (8, .int v8), (11, .int v11), (12, .int v12)] [.int s0] 0 0 S := by
  intro v0 v1 v4 v5 v8 v11 v12 s0 S h
  unfold F_X6_join_J320 at h
  refine r_istore (lv' := [(13, .int s0), (0, .ref v0), (1, .int v1), (4, .int v4), (5, .int v5), (8, .int v8), (11, .int v11), (12, .int v12)]) dX6_join_320 (by decide) rfl ?_
  refine r_aload_n dX6_join_322 rfl 1 rfl ?_
  refine r_bipush (v := (25 : Int32)) dX6_join_323 (by decide) ?_
  refine r_bipush (v := (11 : Int32)) dX6_join_325 (by decide) ?_
  refine r_iload dX6_join_327 5 rfl ?_
  refine r_iadd dX6_join_329 ?_
  refine r_iload dX6_join_330 5 rfl ?_
  refine r_if_le (tgt := 340) dX6_join_332 (by decide) (fun c4 => ?_) (fun c4 => ?_)
  · rw [if_pos c4] at h
    refine r_iload dX6_join_340 6 rfl ?_
    refine r_iload dX6_join_342 7 rfl ?_
    refine r_icmp_le (tgt := 352) dX6_join_344 (by decide) (fun c5 => ?_) (fun c5 => ?_)
    · rw [if_pos c5] at h
      refine r_iload dX6_join_352 7 rfl ?_
      refine r_sub [1, 2, 3, 4, 5] rfl ?_
      exact T_X6_join_J354 hl hK220 v0 v1 v4 v5 v8 v0 (25 : Int32) ((11 : Int32) + v8) v12 S h
    · rw [if_neg c5] at h
      refine r_iload dX6_join_347 6 rfl ?_
      refine r_goto (tgt := 354) dX6_join_349 (by decide) ?_
      refine r_sub [1, 2, 3, 4, 5] rfl ?_
      exact T_X6_join_J354 hl hK220 v0 v1 v4 v5 v8 v0 (25 : Int32) ((11 : Int32) + v8) v11 S h
  · rw [if_neg c4] at h
    refine r_iload dX6_join_335 0 rfl ?_
    refine r_goto (tgt := 354) dX6_join_337 (by decide) ?_
    refine r_sub [1, 2, 3, 4, 5] rfl ?_
    exact T_X6_join_J354 hl hK220 v0 v1 v4 v5 v8 v0 (25 : Int32) ((11 : Int32) + v8) s0 S h

def F_X6_join_J296 (K220 : Nat → Int32 → Int32 → Int32 → Int32 → Mem → Option Mem) (v0 : Nat) (v1 : Int32) (v4 : Int32) (v5 : Int32) (v8 : Int32) (v11 : Int32) (s0 : Int32) (S : Mem) : Option Mem :=
    if (v11 + s0) ≤ (9999 : Int32) then
      F_X6_join_J320 K220 v0 v1 v4 v5 v8 v11 s0 (v11 + s0) S
    else
      F_X6_join_J320 K220 v0 v1 v4 v5 v8 v11 s0 (9999 : Int32) S
set_option maxRecDepth 100000 in
theorem T_X6_join_J296 {g : GG} {l : Launch} (hl : l.stackTraces = false) {S' : Mem}  {K220 : Nat → Int32 → Int32 → Int32 → Int32 → Mem → Option Mem} (hK220 : ∀ (v0 : Nat) (v1 : Int32) (v4 : Int32) (v5 : Int32) (v8 : Int32) (S : Mem), K220 v0 v1 v4 v5 v8 S = some S' → Run g l uX6_join (fin g uX6_join cvV S') 220 [(0, .ref v0), (1, .int v1), (4, .int v4), (5, .int v5), (8, .int v8)] [] 0 0 S) : ∀ (v0 : Nat) (v1 : Int32) (v4 : Int32) (v5 : Int32) (v8 : Int32) (v11 : Int32) (s0 : Int32) (S : Mem), F_X6_join_J296 K220 v0 v1 v4 v5 v8 v11 s0 S = some S' → Run g l uX6_join (fin g uX6_join cvV S') 296 [(0, .ref v0), (1, .int v1), (4, .int v4), (5, .int v5), (8, .int v8), (11, .int v11)] [.int s0] 0 0 S := by
  intro v0 v1 v4 v5 v8 v11 s0 S h
  unfold F_X6_join_J296 at h
  refine r_istore (lv' := [(12, .int s0), (0, .ref v0), (1, .int v1), (4, .int v4), (5, .int v5), (8, .int v8), (11, .int v11)]) dX6_join_296 (by decide) rfl ?_
  refine r_iload dX6_join_298 6 rfl ?_
  refine r_iload dX6_join_300 0 rfl ?_
  refine r_iadd dX6_join_302 ?_
  refine r_sipush (v := (9999 : Int32)) dX6_join_303 (by decide) ?_
  refine r_icmp_le (tgt := 315) dX6_join_306 (by decide) (fun c6 => ?_) (fun c6 => ?_)
  · rw [if_pos c6] at h
    refine r_iload dX6_join_315 6 rfl ?_
    refine r_iload dX6_join_317 0 rfl ?_
    refine r_iadd dX6_join_319 ?_
    refine r_sub [1, 2, 3, 4, 5, 6, 0] rfl ?_
    exact T_X6_join_J320 hl hK220 v0 v1 v4 v5 v8 v11 s0 (v11 + s0) S h
  · rw [if_neg c6] at h
    refine r_sipush (v := (9999 : Int32)) dX6_join_309 (by decide) ?_
    refine r_goto (tgt := 320) dX6_join_312 (by decide) ?_
    refine r_sub [1, 2, 3, 4, 5, 6, 0] rfl ?_
    exact T_X6_join_J320 hl hK220 v0 v1 v4 v5 v8 v11 s0 (9999 : Int32) S h

def F_X6_join_J274 (K220 : Nat → Int32 → Int32 → Int32 → Int32 → Mem → Option Mem) (v0 : Nat) (v1 : Int32) (v4 : Int32) (v5 : Int32) (v8 : Int32) (v10 : Int32) (s0 : Int32) (S : Mem) : Option Mem :=
    if 0 ≤ v10 then
      (pk 6 S v0).bind fun _ =>
      bd2 (F_X6_get v0 v5 ((11 : Int32) + v10) S) fun t9 S10 =>
      F_X6_join_J296 K220 v0 v1 v4 v5 v8 s0 t9 S10
    else
      F_X6_join_J296 K220 v0 v1 v4 v5 v8 s0 (0 : Int32) S
set_option maxRecDepth 100000 in
theorem T_X6_join_J274 {g : GG} {l : Launch} (hl : l.stackTraces = false) {S' : Mem}  {K220 : Nat → Int32 → Int32 → Int32 → Int32 → Mem → Option Mem} (hK220 : ∀ (v0 : Nat) (v1 : Int32) (v4 : Int32) (v5 : Int32) (v8 : Int32) (S : Mem), K220 v0 v1 v4 v5 v8 S = some S' → Run g l uX6_join (fin g uX6_join cvV S') 220 [(0, .ref v0), (1, .int v1), (4, .int v4), (5, .int v5), (8, .int v8)] [] 0 0 S) : ∀ (v0 : Nat) (v1 : Int32) (v4 : Int32) (v5 : Int32) (v8 : Int32) (v10 : Int32) (s0 : Int32) (S : Mem), F_X6_join_J274 K220 v0 v1 v4 v5 v8 v10 s0 S = some S' → Run g l uX6_join (fin g uX6_join cvV S') 274 [(0, .ref v0), (1, .int v1), (4, .int v4), (5, .int v5), (8, .int v8), (10, .int v10)] [.int s0] 0 0 S := by
  intro v0 v1 v4 v5 v8 v10 s0 S h
  unfold F_X6_join_J274 at h
  refine r_istore (lv' := [(11, .int s0), (0, .ref v0), (1, .int v1), (4, .int v4), (5, .int v5), (8, .int v8), (10, .int v10)]) dX6_join_274 (by decide) rfl ?_
  refine r_iload dX6_join_276 6 rfl ?_
  refine r_if_ge (tgt := 285) dX6_join_278 (by decide) (fun c7 => ?_) (fun c7 => ?_)
  · rw [if_pos c7] at h
    refine r_aload_n dX6_join_285 rfl 1 rfl ?_
    refine r_iload dX6_join_286 4 rfl ?_
    refine r_bipush (v := (11 : Int32)) dX6_join_288 (by decide) ?_
    refine r_iload dX6_join_290 6 rfl ?_
    refine r_iadd dX6_join_292 ?_
    obtain ⟨z8, hk, h⟩ := bd h
    obtain ⟨t9, S10, h0, h⟩ := bd2_s h
    refine r_invV (As := [.int v5, .int ((11 : Int32) + v10)]) (st := []) dX6_join_293 lv6_33 (by unfold RM; decide) (Nat.le_of_ble_eq_true rfl) rfl rfl (pk_ok hk) (T_X6_get hl h0) ?_
    refine r_sub [1, 2, 3, 4, 5, 0] rfl ?_
    exact T_X6_join_J296 hl hK220 v0 v1 v4 v5 v8 s0 t9 S10 h
  · rw [if_neg c7] at h
    refine r_iconst (v := (0 : Int32)) dX6_join_281 (by decide) ?_
    refine r_goto (tgt := 296) dX6_join_282 (by decide) ?_
    refine r_sub [1, 2, 3, 4, 5, 0] rfl ?_
    exact T_X6_join_J296 hl hK220 v0 v1 v4 v5 v8 s0 (0 : Int32) S h

def F_X6_join_L220 : Nat → Nat → Int32 → Int32 → Int32 → Int32 → Mem → Option Mem
  | 0, _, _, _, _, _, _ => none
  | fu + 1, v0, v1, v4, v5, v8, S =>
    (pk 6 S v0).bind fun _ =>
    bd2 (F_X6_get v0 (25 : Int32) (1 : Int32) S) fun t12 S13 =>
    if t12 ≤ v8 then
      (pk 6 S13 v0).bind fun _ =>
      (F_X6_joinSample v0 v4 v5 (0 : Int32) S13).bind fun S17 =>
      (pk 6 S17 v0).bind fun _ =>
      (F_X6_joinSample v0 v4 v5 (1 : Int32) S17).bind fun S20 =>
      (pk 6 S20 v0).bind fun _ =>
      (F_X6_close v0 (v1 + (1 : Int32)) S20).bind fun S23 =>
      (pk 6 S23 v0).bind fun _ =>
      (F_X6_copy v0 (25 : Int32) v1 S23).bind fun S26 =>
      some S26
    else
      (pk 6 S13 v0).bind fun _ =>
      bd2 (F_X6_back v0 v4 (0 : Int32) v8 S13) fun t28 S29 =>
      (pk 6 S29 v0).bind fun _ =>
      bd2 (F_X6_back v0 v5 (1 : Int32) v8 S29) fun t31 S32 =>
      if 0 ≤ t28 then
        (pk 6 S32 v0).bind fun _ =>
        bd2 (F_X6_get v0 v4 ((11 : Int32) + t28) S32) fun t35 S36 =>
        F_X6_join_J274 (F_X6_join_L220 fu) v0 v1 v4 v5 v8 t31 t35 S36
      else
        F_X6_join_J274 (F_X6_join_L220 fu) v0 v1 v4 v5 v8 t31 (0 : Int32) S32
set_option maxRecDepth 100000 in
theorem T_X6_join_L220 {g : GG} {l : Launch} (hl : l.stackTraces = false) {S' : Mem}  : ∀ (fu : Nat) (v0 : Nat) (v1 : Int32) (v4 : Int32) (v5 : Int32) (v8 : Int32) (S : Mem), F_X6_join_L220 fu v0 v1 v4 v5 v8 S = some S' → Run g l uX6_join (fin g uX6_join cvV S') 220 [(0, .ref v0), (1, .int v1), (4, .int v4), (5, .int v5), (8, .int v8)] [] 0 0 S := by
  intro fu
  induction fu with
  | zero =>
    intro v0 v1 v4 v5 v8 S h
    cases (show none = some _ from h)
  | succ fu ih =>
    intro v0 v1 v4 v5 v8 S h
    unfold F_X6_join_L220 at h
    refine r_iload dX6_join_220 4 rfl ?_
    refine r_aload_n dX6_join_222 rfl 0 rfl ?_
    refine r_bipush (v := (25 : Int32)) dX6_join_223 (by decide) ?_
    refine r_iconst (v := (1 : Int32)) dX6_join_225 (by decide) ?_
    obtain ⟨z11, hk, h⟩ := bd h
    obtain ⟨t12, S13, h0, h⟩ := bd2_s h
    refine r_invV (As := [.int ((25 : Int32)), .int ((1 : Int32))]) (st := [.int v8]) dX6_join_226 lv6_33 (by unfold RM; decide) (Nat.le_of_ble_eq_true rfl) rfl rfl (pk_ok hk) (T_X6_get hl h0) ?_
    refine r_icmp_ge (tgt := 363) dX6_join_229 (by decide) (fun c14 => ?_) (fun c14 => ?_)
    · rw [if_pos c14] at h
      refine r_aload_n dX6_join_363 rfl 0 rfl ?_
      refine r_iload dX6_join_364 2 rfl ?_
      refine r_iload dX6_join_366 3 rfl ?_
      refine r_iconst (v := (0 : Int32)) dX6_join_368 (by decide) ?_
      obtain ⟨z15, hk, h⟩ := bd h
      obtain ⟨S17, h0, h⟩ := bd h
      refine r_invV (As := [.int v4, .int v5, .int ((0 : Int32))]) (st := []) dX6_join_369 lv6_118 (by unfold RM; decide) (Nat.le_of_ble_eq_true rfl) rfl rfl (pk_ok hk) (T_X6_joinSample hl h0) ?_
      refine r_aload_n dX6_join_372 rfl 0 rfl ?_
      refine r_iload dX6_join_373 2 rfl ?_
      refine r_iload dX6_join_375 3 rfl ?_
      refine r_iconst (v := (1 : Int32)) dX6_join_377 (by decide) ?_
      obtain ⟨z18, hk, h⟩ := bd h
      obtain ⟨S20, h0, h⟩ := bd h
      refine r_invV (As := [.int v4, .int v5, .int ((1 : Int32))]) (st := []) dX6_join_378 lv6_118 (by unfold RM; decide) (Nat.le_of_ble_eq_true rfl) rfl rfl (pk_ok hk) (T_X6_joinSample hl h0) ?_
      refine r_aload_n dX6_join_381 rfl 0 rfl ?_
      refine r_iload_n dX6_join_382 rfl 1 rfl ?_
      refine r_iconst (v := (1 : Int32)) dX6_join_383 (by decide) ?_
      refine r_iadd dX6_join_384 ?_
      obtain ⟨z21, hk, h⟩ := bd h
      obtain ⟨S23, h0, h⟩ := bd h
      refine r_invV (As := [.int (v1 + (1 : Int32))]) (st := []) dX6_join_385 lv6_84 (by unfold RM; decide) (Nat.le_of_ble_eq_true rfl) rfl rfl (pk_ok hk) (T_X6_close hl h0) ?_
      refine r_aload_n dX6_join_388 rfl 0 rfl ?_
      refine r_bipush (v := (25 : Int32)) dX6_join_389 (by decide) ?_
      refine r_iload_n dX6_join_391 rfl 1 rfl ?_
      obtain ⟨z24, hk, h⟩ := bd h
      obtain ⟨S26, h0, h⟩ := bd h
      refine r_invV (As := [.int ((25 : Int32)), .int v1]) (st := []) dX6_join_392 lv6_81 (by unfold RM; decide) (Nat.le_of_ble_eq_true rfl) rfl rfl (pk_ok hk) (T_X6_copy hl h0) ?_
      cases h
      exact r_return dX6_join_395 rfl (by decide) (by decide)
    · rw [if_neg c14] at h
      refine r_aload_n dX6_join_232 rfl 0 rfl ?_
      refine r_iload dX6_join_233 2 rfl ?_
      refine r_iconst (v := (0 : Int32)) dX6_join_235 (by decide) ?_
      refine r_iload dX6_join_236 4 rfl ?_
      obtain ⟨z27, hk, h⟩ := bd h
      obtain ⟨t28, S29, h0, h⟩ := bd2_s h
      refine r_invV (As := [.int v4, .int ((0 : Int32)), .int v8]) (st := []) dX6_join_238 lv6_108 (by unfold RM; decide) (Nat.le_of_ble_eq_true rfl) rfl rfl (pk_ok hk) (T_X6_back hl h0) ?_
      refine r_istore (lv' := [(9, .int t28), (0, .ref v0), (1, .int v1), (4, .int v4), (5, .int v5), (8, .int v8)]) dX6_join_241 (by decide) rfl ?_
      refine r_aload_n dX6_join_243 rfl 1 rfl ?_
      refine r_iload dX6_join_244 4 rfl ?_
      refine r_iconst (v := (1 : Int32)) dX6_join_246 (by decide) ?_
      refine r_iload dX6_join_247 5 rfl ?_
      obtain ⟨z30, hk, h⟩ := bd h
      obtain ⟨t31, S32, h0, h⟩ := bd2_s h
      refine r_invV (As := [.int v5, .int ((1 : Int32)), .int v8]) (st := []) dX6_join_249 lv6_108 (by unfold RM; decide) (Nat.le_of_ble_eq_true rfl) rfl rfl (pk_ok hk) (T_X6_back hl h0) ?_
      refine r_istore (lv' := [(10, .int t31), (9, .int t28), (0, .ref v0), (1, .int v1), (4, .int v4), (5, .int v5), (8, .int v8)]) dX6_join_252 (by decide) rfl ?_
      refine r_iload dX6_join_254 1 rfl ?_
      refine r_if_ge (tgt := 263) dX6_join_256 (by decide) (fun c33 => ?_) (fun c33 => ?_)
      · rw [if_pos c33] at h
        refine r_aload_n dX6_join_263 rfl 2 rfl ?_
        refine r_iload dX6_join_264 4 rfl ?_
        refine r_bipush (v := (11 : Int32)) dX6_join_266 (by decide) ?_
        refine r_iload dX6_join_268 1 rfl ?_
        refine r_iadd dX6_join_270 ?_
        obtain ⟨z34, hk, h⟩ := bd h
        obtain ⟨t35, S36, h0, h⟩ := bd2_s h
        refine r_invV (As := [.int v4, .int ((11 : Int32) + t28)]) (st := []) dX6_join_271 lv6_33 (by unfold RM; decide) (Nat.le_of_ble_eq_true rfl) rfl rfl (pk_ok hk) (T_X6_get hl h0) ?_
        refine r_sub [2, 3, 4, 5, 6, 0] rfl ?_
        exact T_X6_join_J274 hl (fun v0 v1 v4 v5 v8 S h => ih v0 v1 v4 v5 v8 S h) v0 v1 v4 v5 v8 t31 t35 S36 h
      · rw [if_neg c33] at h
        refine r_iconst (v := (0 : Int32)) dX6_join_259 (by decide) ?_
        refine r_goto (tgt := 274) dX6_join_260 (by decide) ?_
        refine r_sub [2, 3, 4, 5, 6, 0] rfl ?_
        exact T_X6_join_J274 hl (fun v0 v1 v4 v5 v8 S h => ih v0 v1 v4 v5 v8 S h) v0 v1 v4 v5 v8 t31 (0 : Int32) S32 h

def F_X6_join_J214 (v0 : Nat) (v1 : Int32) (v4 : Int32) (v5 : Int32) (s0 : Nat) (s1 : Int32) (s2 : Int32) (s3 : Int32) (S : Mem) : Option Mem :=
    (pk 6 S s0).bind fun _ =>
    (F_X6_put s0 s1 s2 s3 S).bind fun S39 =>
    F_X6_join_L220 FU v0 v1 v4 v5 (0 : Int32) S39
set_option maxRecDepth 100000 in
theorem T_X6_join_J214 {g : GG} {l : Launch} (hl : l.stackTraces = false) {S' : Mem}  : ∀ (v0 : Nat) (v1 : Int32) (v4 : Int32) (v5 : Int32) (s0 : Nat) (s1 : Int32) (s2 : Int32) (s3 : Int32) (S : Mem), F_X6_join_J214 v0 v1 v4 v5 s0 s1 s2 s3 S = some S' → Run g l uX6_join (fin g uX6_join cvV S') 214 [(0, .ref v0), (1, .int v1), (4, .int v4), (5, .int v5)] [.int s3, .int s2, .int s1, .ref s0] 0 0 S := by
  intro v0 v1 v4 v5 s0 s1 s2 s3 S h
  unfold F_X6_join_J214 at h
  obtain ⟨z37, hk, h⟩ := bd h
  obtain ⟨S39, h0, h⟩ := bd h
  refine r_invV (As := [.int s1, .int s2, .int s3]) (st := []) dX6_join_214 lv6_29 (by unfold RM; decide) (Nat.le_of_ble_eq_true rfl) rfl rfl (pk_ok hk) (T_X6_put hl h0) ?_
  refine r_iconst (v := (0 : Int32)) dX6_join_217 (by decide) ?_
  refine r_istore (lv' := [(8, .int ((0 : Int32))), (0, .ref v0), (1, .int v1), (4, .int v4), (5, .int v5)]) dX6_join_218 (by decide) rfl ?_
  refine r_sub [1, 2, 3, 4, 0] rfl ?_
  exact T_X6_join_L220 hl FU v0 v1 v4 v5 (0 : Int32) S39 h

def F_X6_join_J162 (v0 : Nat) (v1 : Int32) (v4 : Int32) (v5 : Int32) (v7 : Int32) (s0 : Nat) (s1 : Int32) (S : Mem) : Option Mem :=
    (ppI 6 0 S s0 s1).bind fun S40 =>
    if v7 = 0 then
      some S40
    else
      (pk 6 S40 v0).bind fun _ =>
      bd2 (F_X6_get v0 v4 (10 : Int32) S40) fun t43 S44 =>
      (pk 6 S44 v0).bind fun _ =>
      bd2 (F_X6_get v0 v5 (10 : Int32) S44) fun t46 S47 =>
      if t43 ≤ t46 then
        (pk 6 S47 v0).bind fun _ =>
        bd2 (F_X6_get v0 v5 (10 : Int32) S47) fun t50 S51 =>
        F_X6_join_J214 v0 v1 v4 v5 v0 (25 : Int32) (10 : Int32) t50 S51
      else
        (pk 6 S47 v0).bind fun _ =>
        bd2 (F_X6_get v0 v4 (10 : Int32) S47) fun t53 S54 =>
        F_X6_join_J214 v0 v1 v4 v5 v0 (25 : Int32) (10 : Int32) t53 S54
set_option maxRecDepth 100000 in
theorem T_X6_join_J162 {g : GG} {l : Launch} (hl : l.stackTraces = false) {S' : Mem}  : ∀ (v0 : Nat) (v1 : Int32) (v4 : Int32) (v5 : Int32) (v7 : Int32) (s0 : Nat) (s1 : Int32) (S : Mem), F_X6_join_J162 v0 v1 v4 v5 v7 s0 s1 S = some S' → Run g l uX6_join (fin g uX6_join cvV S') 162 [(0, .ref v0), (1, .int v1), (4, .int v4), (5, .int v5), (7, .int v7)] [.int s1, .ref s0] 0 0 S := by
  intro v0 v1 v4 v5 v7 s0 s1 S h
  unfold F_X6_join_J162 at h
  obtain ⟨S40, h0, h⟩ := bd h
  refine q_putI h0 dX6_join_162 fl6_25 rfl ?_
  refine r_iload dX6_join_165 4 rfl ?_
  refine r_if_ne (tgt := 171) dX6_join_167 (by decide) (fun c41 => ?_) (fun c41 => ?_)
  · rw [if_neg c41] at h
    refine r_aload_n dX6_join_171 rfl 0 rfl ?_
    refine r_bipush (v := (25 : Int32)) dX6_join_172 (by decide) ?_
    refine r_bipush (v := (10 : Int32)) dX6_join_174 (by decide) ?_
    refine r_aload_n dX6_join_176 rfl 0 rfl ?_
    refine r_iload dX6_join_177 2 rfl ?_
    refine r_bipush (v := (10 : Int32)) dX6_join_179 (by decide) ?_
    obtain ⟨z42, hk, h⟩ := bd h
    obtain ⟨t43, S44, h0, h⟩ := bd2_s h
    refine r_invV (As := [.int v4, .int ((10 : Int32))]) (st := [.int ((10 : Int32)), .int ((25 : Int32)), .ref v0]) dX6_join_181 lv6_33 (by unfold RM; decide) (Nat.le_of_ble_eq_true rfl) rfl rfl (pk_ok hk) (T_X6_get hl h0) ?_
    refine r_aload_n dX6_join_184 rfl 0 rfl ?_
    refine r_iload dX6_join_185 3 rfl ?_
    refine r_bipush (v := (10 : Int32)) dX6_join_187 (by decide) ?_
    obtain ⟨z45, hk, h⟩ := bd h
    obtain ⟨t46, S47, h0, h⟩ := bd2_s h
    refine r_invV (As := [.int v5, .int ((10 : Int32))]) (st := [.int t43, .int ((10 : Int32)), .int ((25 : Int32)), .ref v0]) dX6_join_189 lv6_33 (by unfold RM; decide) (Nat.le_of_ble_eq_true rfl) rfl rfl (pk_ok hk) (T_X6_get hl h0) ?_
    refine r_icmp_le (tgt := 206) dX6_join_192 (by decide) (fun c48 => ?_) (fun c48 => ?_)
    · rw [if_pos c48] at h
      refine r_aload_n dX6_join_206 rfl 0 rfl ?_
      refine r_iload dX6_join_207 3 rfl ?_
      refine r_bipush (v := (10 : Int32)) dX6_join_209 (by decide) ?_
      obtain ⟨z49, hk, h⟩ := bd h
      obtain ⟨t50, S51, h0, h⟩ := bd2_s h
      refine r_invV (As := [.int v5, .int ((10 : Int32))]) (st := [.int ((10 : Int32)), .int ((25 : Int32)), .ref v0]) dX6_join_211 lv6_33 (by unfold RM; decide) (Nat.le_of_ble_eq_true rfl) rfl rfl (pk_ok hk) (T_X6_get hl h0) ?_
      refine r_sub [0, 1, 2, 3] rfl ?_
      exact T_X6_join_J214 hl v0 v1 v4 v5 v0 (25 : Int32) (10 : Int32) t50 S51 h
    · rw [if_neg c48] at h
      refine r_aload_n dX6_join_195 rfl 0 rfl ?_
      refine r_iload dX6_join_196 2 rfl ?_
      refine r_bipush (v := (10 : Int32)) dX6_join_198 (by decide) ?_
      obtain ⟨z52, hk, h⟩ := bd h
      obtain ⟨t53, S54, h0, h⟩ := bd2_s h
      refine r_invV (As := [.int v4, .int ((10 : Int32))]) (st := [.int ((10 : Int32)), .int ((25 : Int32)), .ref v0]) dX6_join_200 lv6_33 (by unfold RM; decide) (Nat.le_of_ble_eq_true rfl) rfl rfl (pk_ok hk) (T_X6_get hl h0) ?_
      refine r_goto (tgt := 214) dX6_join_203 (by decide) ?_
      refine r_sub [0, 1, 2, 3] rfl ?_
      exact T_X6_join_J214 hl v0 v1 v4 v5 v0 (25 : Int32) (10 : Int32) t53 S54 h
  · rw [if_pos c41] at h
    cases h
    exact r_return dX6_join_170 rfl (by decide) (by decide)

def F_X6_join_J149 (v0 : Nat) (v1 : Int32) (v4 : Int32) (v5 : Int32) (s0 : Int32) (S : Mem) : Option Mem :=
    if s0 = 0 then
      F_X6_join_J162 v0 v1 v4 v5 s0 v0 (3 : Int32) S
    else
      F_X6_join_J162 v0 v1 v4 v5 s0 v0 (0 : Int32) S
set_option maxRecDepth 100000 in
theorem T_X6_join_J149 {g : GG} {l : Launch} (hl : l.stackTraces = false) {S' : Mem}  : ∀ (v0 : Nat) (v1 : Int32) (v4 : Int32) (v5 : Int32) (s0 : Int32) (S : Mem), F_X6_join_J149 v0 v1 v4 v5 s0 S = some S' → Run g l uX6_join (fin g uX6_join cvV S') 149 [(0, .ref v0), (1, .int v1), (4, .int v4), (5, .int v5)] [.int s0] 0 0 S := by
  intro v0 v1 v4 v5 s0 S h
  unfold F_X6_join_J149 at h
  refine r_istore (lv' := [(7, .int s0), (0, .ref v0), (1, .int v1), (4, .int v4), (5, .int v5)]) dX6_join_149 (by decide) rfl ?_
  refine r_aload_n dX6_join_151 rfl 1 rfl ?_
  refine r_iload dX6_join_152 0 rfl ?_
  refine r_if_eq (tgt := 161) dX6_join_154 (by decide) (fun c55 => ?_) (fun c55 => ?_)
  · rw [if_pos c55] at h
    refine r_iconst (v := (3 : Int32)) dX6_join_161 (by decide) ?_
    refine r_sub [1, 2, 3, 4, 0] rfl ?_
    exact T_X6_join_J162 hl v0 v1 v4 v5 s0 v0 (3 : Int32) S h
  · rw [if_neg c55] at h
    refine r_iconst (v := (0 : Int32)) dX6_join_157 (by decide) ?_
    refine r_goto (tgt := 162) dX6_join_158 (by decide) ?_
    refine r_sub [1, 2, 3, 4, 0] rfl ?_
    exact T_X6_join_J162 hl v0 v1 v4 v5 s0 v0 (0 : Int32) S h

def F_X6_join_J148 (v0 : Nat) (v1 : Int32) (v4 : Int32) (v5 : Int32) (S : Mem) : Option Mem :=
    F_X6_join_J149 v0 v1 v4 v5 (0 : Int32) S
set_option maxRecDepth 100000 in
theorem T_X6_join_J148 {g : GG} {l : Launch} (hl : l.stackTraces = false) {S' : Mem}  : ∀ (v0 : Nat) (v1 : Int32) (v4 : Int32) (v5 : Int32) (S : Mem), F_X6_join_J148 v0 v1 v4 v5 S = some S' → Run g l uX6_join (fin g uX6_join cvV S') 148 [(0, .ref v0), (1, .int v1), (4, .int v4), (5, .int v5)] [] 0 0 S := by
  intro v0 v1 v4 v5 S h
  unfold F_X6_join_J148 at h
  refine r_iconst (v := (0 : Int32)) dX6_join_148 (by decide) ?_
  exact T_X6_join_J149 hl v0 v1 v4 v5 (0 : Int32) S h

def F_X6_join_J88 (v0 : Nat) (v1 : Int32) (v4 : Int32) (v5 : Int32) (s0 : Int32) (S : Mem) : Option Mem :=
    (pk 6 S v0).bind fun _ =>
    bd2 (F_X6_get v0 v4 (0 : Int32) S) fun t57 S58 =>
    (pk 6 S58 v0).bind fun _ =>
    (F_X6_empty v0 (25 : Int32) t57 S58).bind fun S61 =>
    (pk 6 S61 v0).bind fun _ =>
    bd2 (F_X6_get v0 s0 (2 : Int32) S61) fun t63 S64 =>
    (pk 6 S64 v0).bind fun _ =>
    bd2 (F_X6_get v0 s0 (6 : Int32) S64) fun t66 S67 =>
    (pk 6 S67 v0).bind fun _ =>
    (F_X6_addAllele v0 (25 : Int32) t63 t66 S67).bind fun S70 =>
    (pk 6 S70 v0).bind fun _ =>
    bd2 (F_X6_gather v0 v4 (0 : Int32) S70) fun t72 S73 =>
    if t72 = 0 then
      F_X6_join_J148 v0 v1 v4 v5 S73
    else
      (pk 6 S73 v0).bind fun _ =>
      bd2 (F_X6_gather v0 v5 (1 : Int32) S73) fun t76 S77 =>
      if t76 = 0 then
        F_X6_join_J148 v0 v1 v4 v5 S77
      else
        F_X6_join_J149 v0 v1 v4 v5 (1 : Int32) S77
set_option maxRecDepth 100000 in
theorem T_X6_join_J88 {g : GG} {l : Launch} (hl : l.stackTraces = false) {S' : Mem}  : ∀ (v0 : Nat) (v1 : Int32) (v4 : Int32) (v5 : Int32) (s0 : Int32) (S : Mem), F_X6_join_J88 v0 v1 v4 v5 s0 S = some S' → Run g l uX6_join (fin g uX6_join cvV S') 88 [(0, .ref v0), (1, .int v1), (4, .int v4), (5, .int v5)] [.int s0] 0 0 S := by
  intro v0 v1 v4 v5 s0 S h
  unfold F_X6_join_J88 at h
  refine r_istore (lv' := [(6, .int s0), (0, .ref v0), (1, .int v1), (4, .int v4), (5, .int v5)]) dX6_join_88 (by decide) rfl ?_
  refine r_aload_n dX6_join_90 rfl 1 rfl ?_
  refine r_bipush (v := (25 : Int32)) dX6_join_91 (by decide) ?_
  refine r_aload_n dX6_join_93 rfl 1 rfl ?_
  refine r_iload dX6_join_94 3 rfl ?_
  refine r_iconst (v := (0 : Int32)) dX6_join_96 (by decide) ?_
  obtain ⟨z56, hk, h⟩ := bd h
  obtain ⟨t57, S58, h0, h⟩ := bd2_s h
  refine r_invV (As := [.int v4, .int ((0 : Int32))]) (st := [.int ((25 : Int32)), .ref v0]) dX6_join_97 lv6_33 (by unfold RM; decide) (Nat.le_of_ble_eq_true rfl) rfl rfl (pk_ok hk) (T_X6_get hl h0) ?_
  obtain ⟨z59, hk, h⟩ := bd h
  obtain ⟨S61, h0, h⟩ := bd h
  refine r_invV (As := [.int ((25 : Int32)), .int t57]) (st := []) dX6_join_100 lv6_53 (by unfold RM; decide) (Nat.le_of_ble_eq_true rfl) rfl rfl (pk_ok hk) (T_X6_empty hl h0) ?_
  refine r_aload_n dX6_join_103 rfl 1 rfl ?_
  refine r_bipush (v := (25 : Int32)) dX6_join_104 (by decide) ?_
  refine r_aload_n dX6_join_106 rfl 1 rfl ?_
  refine r_iload dX6_join_107 0 rfl ?_
  refine r_iconst (v := (2 : Int32)) dX6_join_109 (by decide) ?_
  obtain ⟨z62, hk, h⟩ := bd h
  obtain ⟨t63, S64, h0, h⟩ := bd2_s h
  refine r_invV (As := [.int s0, .int ((2 : Int32))]) (st := [.int ((25 : Int32)), .ref v0]) dX6_join_110 lv6_33 (by unfold RM; decide) (Nat.le_of_ble_eq_true rfl) rfl rfl (pk_ok hk) (T_X6_get hl h0) ?_
  refine r_aload_n dX6_join_113 rfl 1 rfl ?_
  refine r_iload dX6_join_114 0 rfl ?_
  refine r_bipush (v := (6 : Int32)) dX6_join_116 (by decide) ?_
  obtain ⟨z65, hk, h⟩ := bd h
  obtain ⟨t66, S67, h0, h⟩ := bd2_s h
  refine r_invV (As := [.int s0, .int ((6 : Int32))]) (st := [.int t63, .int ((25 : Int32)), .ref v0]) dX6_join_118 lv6_33 (by unfold RM; decide) (Nat.le_of_ble_eq_true rfl) rfl rfl (pk_ok hk) (T_X6_get hl h0) ?_
  obtain ⟨z68, hk, h⟩ := bd h
  obtain ⟨S70, h0, h⟩ := bd h
  refine r_invV (As := [.int ((25 : Int32)), .int t63, .int t66]) (st := []) dX6_join_121 lv6_60 (by unfold RM; decide) (Nat.le_of_ble_eq_true rfl) rfl rfl (pk_ok hk) (T_X6_addAllele hl h0) ?_
  refine r_aload_n dX6_join_124 rfl 1 rfl ?_
  refine r_iload dX6_join_125 3 rfl ?_
  refine r_iconst (v := (0 : Int32)) dX6_join_127 (by decide) ?_
  obtain ⟨z71, hk, h⟩ := bd h
  obtain ⟨t72, S73, h0, h⟩ := bd2_s h
  refine r_invV (As := [.int v4, .int ((0 : Int32))]) (st := []) dX6_join_128 lv6_115 (by unfold RM; decide) (Nat.le_of_ble_eq_true rfl) rfl rfl (pk_ok hk) (T_X6_gather hl h0) ?_
  refine r_if_eq (tgt := 148) dX6_join_131 (by decide) (fun c74 => ?_) (fun c74 => ?_)
  · rw [if_pos c74] at h
    refine r_sub [1, 2, 3, 4] rfl ?_
    exact T_X6_join_J148 hl v0 v1 v4 v5 S73 h
  · rw [if_neg c74] at h
    refine r_aload_n dX6_join_134 rfl 1 rfl ?_
    refine r_iload dX6_join_135 4 rfl ?_
    refine r_iconst (v := (1 : Int32)) dX6_join_137 (by decide) ?_
    obtain ⟨z75, hk, h⟩ := bd h
    obtain ⟨t76, S77, h0, h⟩ := bd2_s h
    refine r_invV (As := [.int v5, .int ((1 : Int32))]) (st := []) dX6_join_138 lv6_115 (by unfold RM; decide) (Nat.le_of_ble_eq_true rfl) rfl rfl (pk_ok hk) (T_X6_gather hl h0) ?_
    refine r_if_eq (tgt := 148) dX6_join_141 (by decide) (fun c78 => ?_) (fun c78 => ?_)
    · rw [if_pos c78] at h
      refine r_sub [1, 2, 3, 4] rfl ?_
      exact T_X6_join_J148 hl v0 v1 v4 v5 S77 h
    · rw [if_neg c78] at h
      refine r_iconst (v := (1 : Int32)) dX6_join_144 (by decide) ?_
      refine r_goto (tgt := 149) dX6_join_145 (by decide) ?_
      refine r_sub [1, 2, 3, 4] rfl ?_
      exact T_X6_join_J149 hl v0 v1 v4 v5 (1 : Int32) S77 h

def F_X6_join_J45 (v0 : Nat) (v1 : Int32) (v2 : Int32) (s0 : Int32) (S : Mem) : Option Mem :=
    (pk 6 S v0).bind fun _ =>
    bd2 (F_X6_throwing v0 v2 s0 S) fun t80 S81 =>
    if t80 = 0 then
      (pk 6 S81 v0).bind fun _ =>
      bd2 (F_X6_get v0 (v1 + (1 : Int32)) (2 : Int32) S81) fun t84 S85 =>
      (pk 6 S85 v0).bind fun _ =>
      bd2 (F_X6_get v0 v1 (2 : Int32) S85) fun t87 S88 =>
      if t84 ≤ t87 then
        F_X6_join_J88 v0 v1 v1 (v1 + (1 : Int32)) v1 S88
      else
        F_X6_join_J88 v0 v1 v1 (v1 + (1 : Int32)) (v1 + (1 : Int32)) S88
    else
      some S81
set_option maxRecDepth 100000 in
theorem T_X6_join_J45 {g : GG} {l : Launch} (hl : l.stackTraces = false) {S' : Mem}  : ∀ (v0 : Nat) (v1 : Int32) (v2 : Int32) (s0 : Int32) (S : Mem), F_X6_join_J45 v0 v1 v2 s0 S = some S' → Run g l uX6_join (fin g uX6_join cvV S') 45 [(0, .ref v0), (1, .int v1), (2, .int v2)] [.int s0] 0 0 S := by
  intro v0 v1 v2 s0 S h
  unfold F_X6_join_J45 at h
  refine r_istore_n (lv' := [(3, .int s0), (0, .ref v0), (1, .int v1), (2, .int v2)]) dX6_join_45 rfl (by decide) rfl ?_
  refine r_aload_n dX6_join_46 rfl 1 rfl ?_
  refine r_iload_n dX6_join_47 rfl 3 rfl ?_
  refine r_iload_n dX6_join_48 rfl 0 rfl ?_
  obtain ⟨z79, hk, h⟩ := bd h
  obtain ⟨t80, S81, h0, h⟩ := bd2_s h
  refine r_invV (As := [.int v2, .int s0]) (st := []) dX6_join_49 lv6_47 (by unfold RM; decide) (Nat.le_of_ble_eq_true rfl) rfl rfl (pk_ok hk) (T_X6_throwing hl h0) ?_
  refine r_if_eq (tgt := 56) dX6_join_52 (by decide) (fun c82 => ?_) (fun c82 => ?_)
  · rw [if_pos c82] at h
    refine r_iload_n dX6_join_56 rfl 2 rfl ?_
    refine r_istore (lv' := [(4, .int v1), (3, .int s0), (0, .ref v0), (1, .int v1), (2, .int v2)]) dX6_join_57 (by decide) rfl ?_
    refine r_iload_n dX6_join_59 rfl 3 rfl ?_
    refine r_iconst (v := (1 : Int32)) dX6_join_60 (by decide) ?_
    refine r_iadd dX6_join_61 ?_
    refine r_istore (lv' := [(5, .int (v1 + (1 : Int32))), (4, .int v1), (3, .int s0), (0, .ref v0), (1, .int v1), (2, .int v2)]) dX6_join_62 (by decide) rfl ?_
    refine r_aload_n dX6_join_64 rfl 3 rfl ?_
    refine r_iload dX6_join_65 0 rfl ?_
    refine r_iconst (v := (2 : Int32)) dX6_join_67 (by decide) ?_
    obtain ⟨z83, hk, h⟩ := bd h
    obtain ⟨t84, S85, h0, h⟩ := bd2_s h
    refine r_invV (As := [.int (v1 + (1 : Int32)), .int ((2 : Int32))]) (st := []) dX6_join_68 lv6_33 (by unfold RM; decide) (Nat.le_of_ble_eq_true rfl) rfl rfl (pk_ok hk) (T_X6_get hl h0) ?_
    refine r_aload_n dX6_join_71 rfl 3 rfl ?_
    refine r_iload dX6_join_72 1 rfl ?_
    refine r_iconst (v := (2 : Int32)) dX6_join_74 (by decide) ?_
    obtain ⟨z86, hk, h⟩ := bd h
    obtain ⟨t87, S88, h0, h⟩ := bd2_s h
    refine r_invV (As := [.int v1, .int ((2 : Int32))]) (st := [.int t84]) dX6_join_75 lv6_33 (by unfold RM; decide) (Nat.le_of_ble_eq_true rfl) rfl rfl (pk_ok hk) (T_X6_get hl h0) ?_
    refine r_icmp_le (tgt := 86) dX6_join_78 (by decide) (fun c89 => ?_) (fun c89 => ?_)
    · rw [if_pos c89] at h
      refine r_iload dX6_join_86 1 rfl ?_
      refine r_sub [3, 4, 1, 0] rfl ?_
      exact T_X6_join_J88 hl v0 v1 v1 (v1 + (1 : Int32)) v1 S88 h
    · rw [if_neg c89] at h
      refine r_iload dX6_join_81 0 rfl ?_
      refine r_goto (tgt := 88) dX6_join_83 (by decide) ?_
      refine r_sub [3, 4, 1, 0] rfl ?_
      exact T_X6_join_J88 hl v0 v1 v1 (v1 + (1 : Int32)) (v1 + (1 : Int32)) S88 h
  · rw [if_neg c82] at h
    cases h
    exact r_return dX6_join_55 rfl (by decide) (by decide)

def F_X6_join_J44 (v0 : Nat) (v1 : Int32) (v2 : Int32) (S : Mem) : Option Mem :=
    F_X6_join_J45 v0 v1 v2 (0 : Int32) S
set_option maxRecDepth 100000 in
theorem T_X6_join_J44 {g : GG} {l : Launch} (hl : l.stackTraces = false) {S' : Mem}  : ∀ (v0 : Nat) (v1 : Int32) (v2 : Int32) (S : Mem), F_X6_join_J44 v0 v1 v2 S = some S' → Run g l uX6_join (fin g uX6_join cvV S') 44 [(0, .ref v0), (1, .int v1), (2, .int v2)] [] 0 0 S := by
  intro v0 v1 v2 S h
  unfold F_X6_join_J44 at h
  refine r_iconst (v := (0 : Int32)) dX6_join_44 (by decide) ?_
  exact T_X6_join_J45 hl v0 v1 v2 (0 : Int32) S h

def F_X6_join_J40 (v0 : Nat) (v1 : Int32) (v2 : Int32) (S : Mem) : Option Mem :=
    F_X6_join_J45 v0 v1 v2 (1 : Int32) S
set_option maxRecDepth 100000 in
theorem T_X6_join_J40 {g : GG} {l : Launch} (hl : l.stackTraces = false) {S' : Mem}  : ∀ (v0 : Nat) (v1 : Int32) (v2 : Int32) (S : Mem), F_X6_join_J40 v0 v1 v2 S = some S' → Run g l uX6_join (fin g uX6_join cvV S') 40 [(0, .ref v0), (1, .int v1), (2, .int v2)] [] 0 0 S := by
  intro v0 v1 v2 S h
  unfold F_X6_join_J40 at h
  refine r_iconst (v := (1 : Int32)) dX6_join_40 (by decide) ?_
  refine r_goto (tgt := 45) dX6_join_41 (by decide) ?_
  exact T_X6_join_J45 hl v0 v1 v2 (1 : Int32) S h

def F_X6_join (v0 : Nat) (v1 : Int32) (S : Mem) : Option Mem :=
    (pgI 6 4 S v0).bind fun t90 =>
    bd2 (F_X6_out v1 t90 S) fun t91 S92 =>
    if t91 = 0 then
      (pgI 6 4 S92 v0).bind fun t94 =>
      if (v1 + (1 : Int32)) = t94 then
        F_X6_join_J40 v0 v1 t91 S92
      else
        (pk 6 S92 v0).bind fun _ =>
        bd2 (F_X6_get v0 (v1 + (1 : Int32)) (0 : Int32) S92) fun t97 S98 =>
        (pk 6 S98 v0).bind fun _ =>
        bd2 (F_X6_get v0 v1 (0 : Int32) S98) fun t100 S101 =>
        if t97 = t100 then
          F_X6_join_J44 v0 v1 t91 S101
        else
          F_X6_join_J40 v0 v1 t91 S101
    else
      F_X6_join_J44 v0 v1 t91 S92
set_option maxRecDepth 100000 in
theorem T_X6_join {g : GG} {l : Launch} (hl : l.stackTraces = false) {v0 : Nat} {v1 : Int32} {S S' : Mem} (h : F_X6_join v0 v1 S = some S') : Call g l uX6_join [.ref v0, .int v1] S cvV S' := by
  refine call_of (by decide +kernel) hl rfl (Nat.le_of_ble_eq_true rfl) ?_
  show Run g l uX6_join _ 0 [(0, .ref v0), (1, .int v1)] [] 0 0 S
  unfold F_X6_join at h
  refine r_iload_n dX6_join_0 rfl 1 rfl ?_
  refine r_aload_n dX6_join_1 rfl 0 rfl ?_
  obtain ⟨t90, h0, h⟩ := bd h
  refine q_getI h0 dX6_join_2 fl6_44 rfl ?_
  obtain ⟨t91, S92, h0, h⟩ := bd2_s h
  refine r_invS (As := [.int v1, .int t90]) (st := []) dX6_join_5 ls6_67 (by unfold RM; decide) (Nat.le_of_ble_eq_true rfl) rfl rfl (T_X6_out hl h0) ?_
  refine r_istore_n (lv' := [(2, .int t91), (0, .ref v0), (1, .int v1)]) dX6_join_8 rfl (by decide) rfl ?_
  refine r_iload_n dX6_join_9 rfl 0 rfl ?_
  refine r_if_ne (tgt := 44) dX6_join_10 (by decide) (fun c93 => ?_) (fun c93 => ?_)
  · rw [if_neg c93] at h
    refine r_sub [1, 2, 0] rfl ?_
    exact T_X6_join_J44 hl v0 v1 t91 S92 h
  · rw [if_pos c93] at h
    refine r_iload_n dX6_join_13 rfl 2 rfl ?_
    refine r_iconst (v := (1 : Int32)) dX6_join_14 (by decide) ?_
    refine r_iadd dX6_join_15 ?_
    refine r_aload_n dX6_join_16 rfl 1 rfl ?_
    obtain ⟨t94, h0, h⟩ := bd h
    refine q_getI h0 dX6_join_17 fl6_44 rfl ?_
    refine r_icmp_eq (tgt := 40) dX6_join_20 (by decide) (fun c95 => ?_) (fun c95 => ?_)
    · rw [if_pos c95] at h
      refine r_sub [1, 2, 0] rfl ?_
      exact T_X6_join_J40 hl v0 v1 t91 S92 h
    · rw [if_neg c95] at h
      refine r_aload_n dX6_join_23 rfl 1 rfl ?_
      refine r_iload_n dX6_join_24 rfl 2 rfl ?_
      refine r_iconst (v := (1 : Int32)) dX6_join_25 (by decide) ?_
      refine r_iadd dX6_join_26 ?_
      refine r_iconst (v := (0 : Int32)) dX6_join_27 (by decide) ?_
      obtain ⟨z96, hk, h⟩ := bd h
      obtain ⟨t97, S98, h0, h⟩ := bd2_s h
      refine r_invV (As := [.int (v1 + (1 : Int32)), .int ((0 : Int32))]) (st := []) dX6_join_28 lv6_33 (by unfold RM; decide) (Nat.le_of_ble_eq_true rfl) rfl rfl (pk_ok hk) (T_X6_get hl h0) ?_
      refine r_aload_n dX6_join_31 rfl 1 rfl ?_
      refine r_iload_n dX6_join_32 rfl 2 rfl ?_
      refine r_iconst (v := (0 : Int32)) dX6_join_33 (by decide) ?_
      obtain ⟨z99, hk, h⟩ := bd h
      obtain ⟨t100, S101, h0, h⟩ := bd2_s h
      refine r_invV (As := [.int v1, .int ((0 : Int32))]) (st := [.int t97]) dX6_join_34 lv6_33 (by unfold RM; decide) (Nat.le_of_ble_eq_true rfl) rfl rfl (pk_ok hk) (T_X6_get hl h0) ?_
      refine r_icmp_eq (tgt := 44) dX6_join_37 (by decide) (fun c102 => ?_) (fun c102 => ?_)
      · rw [if_pos c102] at h
        refine r_sub [1, 2, 0] rfl ?_
        exact T_X6_join_J44 hl v0 v1 t91 S101 h
      · rw [if_neg c102] at h
        refine r_sub [1, 2, 0] rfl ?_
        exact T_X6_join_J40 hl v0 v1 t91 S101 h

def F_X6_write (v0 : Nat) (v1 : Int32) (S : Mem) : Option Mem :=
    (pgR 6 6 S v0).bind fun t1 =>
    (pgI 6 7 S v0).bind fun t2 =>
    (psI S t1 t2 (v1 &&& (255 : Int32))).bind fun S3 =>
    (pgI 6 7 S3 v0).bind fun t4 =>
    (ppI 6 7 S3 v0 (t4 + (1 : Int32))).bind fun S5 =>
    some S5
set_option maxRecDepth 100000 in
theorem T_X6_write {g : GG} {l : Launch} (hl : l.stackTraces = false) {v0 : Nat} {v1 : Int32} {S S' : Mem} (h : F_X6_write v0 v1 S = some S') : Call g l uX6_write [.ref v0, .int v1] S cvV S' := by
  refine call_of (by decide +kernel) hl rfl (Nat.le_of_ble_eq_true rfl) ?_
  show Run g l uX6_write _ 0 [(0, .ref v0), (1, .int v1)] [] 0 0 S
  unfold F_X6_write at h
  refine r_aload_n dX6_write_0 rfl 0 rfl ?_
  obtain ⟨t1, h0, h⟩ := bd h
  refine q_getR h0 dX6_write_1 fl6_16 rfl ?_
  refine r_aload_n dX6_write_4 rfl 0 rfl ?_
  obtain ⟨t2, h0, h⟩ := bd h
  refine q_getI h0 dX6_write_5 fl6_121 rfl ?_
  refine r_iload_n dX6_write_8 rfl 1 rfl ?_
  refine r_sipush (v := (255 : Int32)) dX6_write_9 (by decide) ?_
  refine r_iand dX6_write_12 ?_
  obtain ⟨S3, h0, h⟩ := bd h
  refine q_iastore h0 dX6_write_13 ?_
  refine r_aload_n dX6_write_14 rfl 0 rfl ?_
  refine r_dup dX6_write_15 rfl ?_
  obtain ⟨t4, h0, h⟩ := bd h
  refine q_getI h0 dX6_write_16 fl6_121 rfl ?_
  refine r_iconst (v := (1 : Int32)) dX6_write_19 (by decide) ?_
  refine r_iadd dX6_write_20 ?_
  obtain ⟨S5, h0, h⟩ := bd h
  refine q_putI h0 dX6_write_21 fl6_121 rfl ?_
  cases h
  exact r_return dX6_write_24 rfl (by decide) (by decide)

def F_X6_writeRow_J106 (K66 : Nat → Int32 → Int32 → Int32 → Int32 → Int32 → Mem → Option Mem) (v0 : Nat) (v1 : Int32) (v2 : Int32) (v3 : Int32) (v4 : Int32) (v5 : Int32) (S : Mem) : Option Mem :=
    K66 v0 v1 v2 v3 v4 (v5 + 1) S
set_option maxRecDepth 100000 in
theorem T_X6_writeRow_J106 {g : GG} {l : Launch} (hl : l.stackTraces = false) {S' : Mem}  {K66 : Nat → Int32 → Int32 → Int32 → Int32 → Int32 → Mem → Option Mem} (hK66 : ∀ (v0 : Nat) (v1 : Int32) (v2 : Int32) (v3 : Int32) (v4 : Int32) (v5 : Int32) (S : Mem), K66 v0 v1 v2 v3 v4 v5 S = some S' → Run g l uX6_writeRow (fin g uX6_writeRow cvV S') 66 [(0, .ref v0), (1, .int v1), (2, .int v2), (3, .int v3), (4, .int v4), (5, .int v5)] [] 0 0 S) : ∀ (v0 : Nat) (v1 : Int32) (v2 : Int32) (v3 : Int32) (v4 : Int32) (v5 : Int32) (S : Mem), F_X6_writeRow_J106 K66 v0 v1 v2 v3 v4 v5 S = some S' → Run g l uX6_writeRow (fin g uX6_writeRow cvV S') 106 [(0, .ref v0), (1, .int v1), (2, .int v2), (3, .int v3), (4, .int v4), (5, .int v5)] [] 0 0 S := by
  intro v0 v1 v2 v3 v4 v5 S h
  unfold F_X6_writeRow_J106 at h
  refine r_iinc (v := v5 + 1) (lv' := [(5, .int (v5 + 1)), (0, .ref v0), (1, .int v1), (2, .int v2), (3, .int v3), (4, .int v4)]) dX6_writeRow_106 5 rfl rfl (by decide) rfl ?_
  refine r_goto (tgt := 66) dX6_writeRow_109 (by decide) ?_
  refine r_sub [1, 2, 3, 4, 5, 0] rfl ?_
  exact hK66 v0 v1 v2 v3 v4 (v5 + 1) S h

def F_X6_writeRow_L66 : Nat → Nat → Int32 → Int32 → Int32 → Int32 → Int32 → Mem → Option Mem
  | 0, _, _, _, _, _, _, _ => none
  | fu + 1, v0, v1, v2, v3, v4, v5, S =>
    if v3 ≤ v5 then
      some S
    else
      (pk 6 S v0).bind fun _ =>
      bd2 (F_X6_get v0 v1 (v2 + v5) S) fun t3 S4 =>
      (pk 6 S4 v0).bind fun _ =>
      (F_X6_write v0 t3 S4).bind fun S7 =>
      if v4 = 0 then
        F_X6_writeRow_J106 (F_X6_writeRow_L66 fu) v0 v1 v2 v3 v4 v5 S7
      else
        (pk 6 S7 v0).bind fun _ =>
        bd2 (F_X6_get v0 v1 (v2 + v5) S7) fun t10 S11 =>
        (pk 6 S11 v0).bind fun _ =>
        (F_X6_write v0 (t10 >>> ((8 : Int32) &&& 31)) S11).bind fun S14 =>
        F_X6_writeRow_J106 (F_X6_writeRow_L66 fu) v0 v1 v2 v3 v4 v5 S14
set_option maxRecDepth 100000 in
theorem T_X6_writeRow_L66 {g : GG} {l : Launch} (hl : l.stackTraces = false) {S' : Mem}  : ∀ (fu : Nat) (v0 : Nat) (v1 : Int32) (v2 : Int32) (v3 : Int32) (v4 : Int32) (v5 : Int32) (S : Mem), F_X6_writeRow_L66 fu v0 v1 v2 v3 v4 v5 S = some S' → Run g l uX6_writeRow (fin g uX6_writeRow cvV S') 66 [(0, .ref v0), (1, .int v1), (2, .int v2), (3, .int v3), (4, .int v4), (5, .int v5)] [] 0 0 S := by
  intro fu
  induction fu with
  | zero =>
    intro v0 v1 v2 v3 v4 v5 S h
    cases (show none = some _ from h)
  | succ fu ih =>
    intro v0 v1 v2 v3 v4 v5 S h
    unfold F_X6_writeRow_L66 at h
    refine r_iload dX6_writeRow_66 5 rfl ?_
    refine r_iload_n dX6_writeRow_68 rfl 3 rfl ?_
    refine r_icmp_ge (tgt := 112) dX6_writeRow_69 (by decide) (fun c1 => ?_) (fun c1 => ?_)
    · rw [if_pos c1] at h
      cases h
      exact r_return dX6_writeRow_112 rfl (by decide) (by decide)
    · rw [if_neg c1] at h
      refine r_aload_n dX6_writeRow_72 rfl 0 rfl ?_
      refine r_aload_n dX6_writeRow_73 rfl 0 rfl ?_
      refine r_iload_n dX6_writeRow_74 rfl 1 rfl ?_
      refine r_iload_n dX6_writeRow_75 rfl 2 rfl ?_
      refine r_iload dX6_writeRow_76 5 rfl ?_
      refine r_iadd dX6_writeRow_78 ?_
      obtain ⟨z2, hk, h⟩ := bd h
      obtain ⟨t3, S4, h0, h⟩ := bd2_s h
      refine r_invV (As := [.int v1, .int (v2 + v5)]) (st := [.ref v0]) dX6_writeRow_79 lv6_33 (by unfold RM; decide) (Nat.le_of_ble_eq_true rfl) rfl rfl (pk_ok hk) (T_X6_get hl h0) ?_
      obtain ⟨z5, hk, h⟩ := bd h
      obtain ⟨S7, h0, h⟩ := bd h
      refine r_invV (As := [.int t3]) (st := []) dX6_writeRow_82 lv6_124 (by unfold RM; decide) (Nat.le_of_ble_eq_true rfl) rfl rfl (pk_ok hk) (T_X6_write hl h0) ?_
      refine r_iload dX6_writeRow_85 4 rfl ?_
      refine r_if_eq (tgt := 106) dX6_writeRow_87 (by decide) (fun c8 => ?_) (fun c8 => ?_)
      · rw [if_pos c8] at h
        exact T_X6_writeRow_J106 hl (fun v0 v1 v2 v3 v4 v5 S h => ih v0 v1 v2 v3 v4 v5 S h) v0 v1 v2 v3 v4 v5 S7 h
      · rw [if_neg c8] at h
        refine r_aload_n dX6_writeRow_90 rfl 0 rfl ?_
        refine r_aload_n dX6_writeRow_91 rfl 0 rfl ?_
        refine r_iload_n dX6_writeRow_92 rfl 1 rfl ?_
        refine r_iload_n dX6_writeRow_93 rfl 2 rfl ?_
        refine r_iload dX6_writeRow_94 5 rfl ?_
        refine r_iadd dX6_writeRow_96 ?_
        obtain ⟨z9, hk, h⟩ := bd h
        obtain ⟨t10, S11, h0, h⟩ := bd2_s h
        refine r_invV (As := [.int v1, .int (v2 + v5)]) (st := [.ref v0]) dX6_writeRow_97 lv6_33 (by unfold RM; decide) (Nat.le_of_ble_eq_true rfl) rfl rfl (pk_ok hk) (T_X6_get hl h0) ?_
        refine r_bipush (v := (8 : Int32)) dX6_writeRow_100 (by decide) ?_
        refine r_ishr dX6_writeRow_102 ?_
        obtain ⟨z12, hk, h⟩ := bd h
        obtain ⟨S14, h0, h⟩ := bd h
        refine r_invV (As := [.int (t10 >>> ((8 : Int32) &&& 31))]) (st := []) dX6_writeRow_103 lv6_124 (by unfold RM; decide) (Nat.le_of_ble_eq_true rfl) rfl rfl (pk_ok hk) (T_X6_write hl h0) ?_
        exact T_X6_writeRow_J106 hl (fun v0 v1 v2 v3 v4 v5 S h => ih v0 v1 v2 v3 v4 v5 S h) v0 v1 v2 v3 v4 v5 S14 h

def F_X6_writeRow_J59 (v0 : Nat) (v1 : Int32) (v2 : Int32) (v3 : Int32) (v4 : Int32) (s0 : Nat) (s1 : Int32) (s2 : Int32) (S : Mem) : Option Mem :=
    (pk 6 S s0).bind fun _ =>
    (F_X6_write s0 (s1 + s2) S).bind fun S17 =>
    F_X6_writeRow_L66 FU v0 v1 v2 v3 v4 (0 : Int32) S17
set_option maxRecDepth 100000 in
theorem T_X6_writeRow_J59 {g : GG} {l : Launch} (hl : l.stackTraces = false) {S' : Mem}  : ∀ (v0 : Nat) (v1 : Int32) (v2 : Int32) (v3 : Int32) (v4 : Int32) (s0 : Nat) (s1 : Int32) (s2 : Int32) (S : Mem), F_X6_writeRow_J59 v0 v1 v2 v3 v4 s0 s1 s2 S = some S' → Run g l uX6_writeRow (fin g uX6_writeRow cvV S') 59 [(0, .ref v0), (1, .int v1), (2, .int v2), (3, .int v3), (4, .int v4)] [.int s2, .int s1, .ref s0] 0 0 S := by
  intro v0 v1 v2 v3 v4 s0 s1 s2 S h
  unfold F_X6_writeRow_J59 at h
  refine r_iadd dX6_writeRow_59 ?_
  obtain ⟨z15, hk, h⟩ := bd h
  obtain ⟨S17, h0, h⟩ := bd h
  refine r_invV (As := [.int (s1 + s2)]) (st := []) dX6_writeRow_60 lv6_124 (by unfold RM; decide) (Nat.le_of_ble_eq_true rfl) rfl rfl (pk_ok hk) (T_X6_write hl h0) ?_
  refine r_iconst (v := (0 : Int32)) dX6_writeRow_63 (by decide) ?_
  refine r_istore (lv' := [(5, .int ((0 : Int32))), (0, .ref v0), (1, .int v1), (2, .int v2), (3, .int v3), (4, .int v4)]) dX6_writeRow_64 (by decide) rfl ?_
  refine r_sub [1, 2, 3, 4, 5, 0] rfl ?_
  exact T_X6_writeRow_L66 hl FU v0 v1 v2 v3 v4 (0 : Int32) S17 h

def F_X6_writeRow_J36 (K6 : Nat → Int32 → Int32 → Int32 → Int32 → Int32 → Mem → Option Mem) (v0 : Nat) (v1 : Int32) (v2 : Int32) (v3 : Int32) (v5 : Int32) (s0 : Int32) (S : Mem) : Option Mem :=
    K6 v0 v1 v2 v3 s0 (v5 + 1) S
set_option maxRecDepth 100000 in
theorem T_X6_writeRow_J36 {g : GG} {l : Launch} (hl : l.stackTraces = false) {S' : Mem}  {K6 : Nat → Int32 → Int32 → Int32 → Int32 → Int32 → Mem → Option Mem} (hK6 : ∀ (v0 : Nat) (v1 : Int32) (v2 : Int32) (v3 : Int32) (v4 : Int32) (v5 : Int32) (S : Mem), K6 v0 v1 v2 v3 v4 v5 S = some S' → Run g l uX6_writeRow (fin g uX6_writeRow cvV S') 6 [(0, .ref v0), (1, .int v1), (2, .int v2), (3, .int v3), (4, .int v4), (5, .int v5)] [] 0 0 S) : ∀ (v0 : Nat) (v1 : Int32) (v2 : Int32) (v3 : Int32) (v5 : Int32) (s0 : Int32) (S : Mem), F_X6_writeRow_J36 K6 v0 v1 v2 v3 v5 s0 S = some S' → Run g l uX6_writeRow (fin g uX6_writeRow cvV S') 36 [(0, .ref v0), (1, .int v1), (2, .int v2), (3, .int v3), (5, .int v5)] [.int s0] 0 0 S := by
  intro v0 v1 v2 v3 v5 s0 S h
  unfold F_X6_writeRow_J36 at h
  refine r_istore (lv' := [(4, .int s0), (0, .ref v0), (1, .int v1), (2, .int v2), (3, .int v3), (5, .int v5)]) dX6_writeRow_36 (by decide) rfl ?_
  refine r_iinc (v := v5 + 1) (lv' := [(5, .int (v5 + 1)), (4, .int s0), (0, .ref v0), (1, .int v1), (2, .int v2), (3, .int v3)]) dX6_writeRow_38 5 rfl rfl (by decide) rfl ?_
  refine r_goto (tgt := 6) dX6_writeRow_41 (by decide) ?_
  refine r_sub [2, 3, 4, 5, 1, 0] rfl ?_
  exact hK6 v0 v1 v2 v3 s0 (v5 + 1) S h

def F_X6_writeRow_J31 (K6 : Nat → Int32 → Int32 → Int32 → Int32 → Int32 → Mem → Option Mem) (v0 : Nat) (v1 : Int32) (v2 : Int32) (v3 : Int32) (v5 : Int32) (S : Mem) : Option Mem :=
    F_X6_writeRow_J36 K6 v0 v1 v2 v3 v5 (1 : Int32) S
set_option maxRecDepth 100000 in
theorem T_X6_writeRow_J31 {g : GG} {l : Launch} (hl : l.stackTraces = false) {S' : Mem}  {K6 : Nat → Int32 → Int32 → Int32 → Int32 → Int32 → Mem → Option Mem} (hK6 : ∀ (v0 : Nat) (v1 : Int32) (v2 : Int32) (v3 : Int32) (v4 : Int32) (v5 : Int32) (S : Mem), K6 v0 v1 v2 v3 v4 v5 S = some S' → Run g l uX6_writeRow (fin g uX6_writeRow cvV S') 6 [(0, .ref v0), (1, .int v1), (2, .int v2), (3, .int v3), (4, .int v4), (5, .int v5)] [] 0 0 S) : ∀ (v0 : Nat) (v1 : Int32) (v2 : Int32) (v3 : Int32) (v5 : Int32) (S : Mem), F_X6_writeRow_J31 K6 v0 v1 v2 v3 v5 S = some S' → Run g l uX6_writeRow (fin g uX6_writeRow cvV S') 31 [(0, .ref v0), (1, .int v1), (2, .int v2), (3, .int v3), (5, .int v5)] [] 0 0 S := by
  intro v0 v1 v2 v3 v5 S h
  unfold F_X6_writeRow_J31 at h
  refine r_iconst (v := (1 : Int32)) dX6_writeRow_31 (by decide) ?_
  refine r_goto (tgt := 36) dX6_writeRow_32 (by decide) ?_
  exact T_X6_writeRow_J36 hl hK6 v0 v1 v2 v3 v5 (1 : Int32) S h

def F_X6_writeRow_L6 : Nat → Nat → Int32 → Int32 → Int32 → Int32 → Int32 → Mem → Option Mem
  | 0, _, _, _, _, _, _, _ => none
  | fu + 1, v0, v1, v2, v3, v4, v5, S =>
    if v3 ≤ v5 then
      if v4 = 0 then
        F_X6_writeRow_J59 v0 v1 v2 v3 v4 v0 ((16 : Int32) * v3) (1 : Int32) S
      else
        F_X6_writeRow_J59 v0 v1 v2 v3 v4 v0 ((16 : Int32) * v3) (2 : Int32) S
    else
      if v4 = 0 then
        (pk 6 S v0).bind fun _ =>
        bd2 (F_X6_get v0 v1 (v2 + v5) S) fun t22 S23 =>
        if t22 ≤ (127 : Int32) then
          F_X6_writeRow_J36 (F_X6_writeRow_L6 fu) v0 v1 v2 v3 v5 (0 : Int32) S23
        else
          F_X6_writeRow_J31 (F_X6_writeRow_L6 fu) v0 v1 v2 v3 v5 S23
      else
        F_X6_writeRow_J31 (F_X6_writeRow_L6 fu) v0 v1 v2 v3 v5 S
set_option maxRecDepth 100000 in
theorem T_X6_writeRow_L6 {g : GG} {l : Launch} (hl : l.stackTraces = false) {S' : Mem}  : ∀ (fu : Nat) (v0 : Nat) (v1 : Int32) (v2 : Int32) (v3 : Int32) (v4 : Int32) (v5 : Int32) (S : Mem), F_X6_writeRow_L6 fu v0 v1 v2 v3 v4 v5 S = some S' → Run g l uX6_writeRow (fin g uX6_writeRow cvV S') 6 [(0, .ref v0), (1, .int v1), (2, .int v2), (3, .int v3), (4, .int v4), (5, .int v5)] [] 0 0 S := by
  intro fu
  induction fu with
  | zero =>
    intro v0 v1 v2 v3 v4 v5 S h
    cases (show none = some _ from h)
  | succ fu ih =>
    intro v0 v1 v2 v3 v4 v5 S h
    unfold F_X6_writeRow_L6 at h
    refine r_iload dX6_writeRow_6 5 rfl ?_
    refine r_iload_n dX6_writeRow_8 rfl 3 rfl ?_
    refine r_icmp_ge (tgt := 44) dX6_writeRow_9 (by decide) (fun c18 => ?_) (fun c18 => ?_)
    · rw [if_pos c18] at h
      refine r_aload_n dX6_writeRow_44 rfl 0 rfl ?_
      refine r_bipush (v := (16 : Int32)) dX6_writeRow_45 (by decide) ?_
      refine r_iload_n dX6_writeRow_47 rfl 3 rfl ?_
      refine r_imul dX6_writeRow_48 ?_
      refine r_iload dX6_writeRow_49 4 rfl ?_
      refine r_if_eq (tgt := 58) dX6_writeRow_51 (by decide) (fun c19 => ?_) (fun c19 => ?_)
      · rw [if_pos c19] at h
        refine r_iconst (v := (1 : Int32)) dX6_writeRow_58 (by decide) ?_
        refine r_sub [0, 1, 2, 3, 4] rfl ?_
        exact T_X6_writeRow_J59 hl v0 v1 v2 v3 v4 v0 ((16 : Int32) * v3) (1 : Int32) S h
      · rw [if_neg c19] at h
        refine r_iconst (v := (2 : Int32)) dX6_writeRow_54 (by decide) ?_
        refine r_goto (tgt := 59) dX6_writeRow_55 (by decide) ?_
        refine r_sub [0, 1, 2, 3, 4] rfl ?_
        exact T_X6_writeRow_J59 hl v0 v1 v2 v3 v4 v0 ((16 : Int32) * v3) (2 : Int32) S h
    · rw [if_neg c18] at h
      refine r_iload dX6_writeRow_12 4 rfl ?_
      refine r_if_ne (tgt := 31) dX6_writeRow_14 (by decide) (fun c20 => ?_) (fun c20 => ?_)
      · rw [if_neg c20] at h
        refine r_sub [0, 1, 2, 3, 5] rfl ?_
        exact T_X6_writeRow_J31 hl (fun v0 v1 v2 v3 v4 v5 S h => ih v0 v1 v2 v3 v4 v5 S h) v0 v1 v2 v3 v5 S h
      · rw [if_pos c20] at h
        refine r_aload_n dX6_writeRow_17 rfl 0 rfl ?_
        refine r_iload_n dX6_writeRow_18 rfl 1 rfl ?_
        refine r_iload_n dX6_writeRow_19 rfl 2 rfl ?_
        refine r_iload dX6_writeRow_20 5 rfl ?_
        refine r_iadd dX6_writeRow_22 ?_
        obtain ⟨z21, hk, h⟩ := bd h
        obtain ⟨t22, S23, h0, h⟩ := bd2_s h
        refine r_invV (As := [.int v1, .int (v2 + v5)]) (st := []) dX6_writeRow_23 lv6_33 (by unfold RM; decide) (Nat.le_of_ble_eq_true rfl) rfl rfl (pk_ok hk) (T_X6_get hl h0) ?_
        refine r_bipush (v := (127 : Int32)) dX6_writeRow_26 (by decide) ?_
        refine r_icmp_le (tgt := 35) dX6_writeRow_28 (by decide) (fun c24 => ?_) (fun c24 => ?_)
        · rw [if_pos c24] at h
          refine r_iconst (v := (0 : Int32)) dX6_writeRow_35 (by decide) ?_
          refine r_sub [0, 1, 2, 3, 5] rfl ?_
          exact T_X6_writeRow_J36 hl (fun v0 v1 v2 v3 v4 v5 S h => ih v0 v1 v2 v3 v4 v5 S h) v0 v1 v2 v3 v5 (0 : Int32) S23 h
        · rw [if_neg c24] at h
          refine r_sub [0, 1, 2, 3, 5] rfl ?_
          exact T_X6_writeRow_J31 hl (fun v0 v1 v2 v3 v4 v5 S h => ih v0 v1 v2 v3 v4 v5 S h) v0 v1 v2 v3 v5 S23 h

def F_X6_writeRow (v0 : Nat) (v1 : Int32) (v2 : Int32) (v3 : Int32) (S : Mem) : Option Mem :=
    F_X6_writeRow_L6 FU v0 v1 v2 v3 (0 : Int32) (0 : Int32) S
set_option maxRecDepth 100000 in
theorem T_X6_writeRow {g : GG} {l : Launch} (hl : l.stackTraces = false) {v0 : Nat} {v1 : Int32} {v2 : Int32} {v3 : Int32} {S S' : Mem} (h : F_X6_writeRow v0 v1 v2 v3 S = some S') : Call g l uX6_writeRow [.ref v0, .int v1, .int v2, .int v3] S cvV S' := by
  refine call_of (by decide +kernel) hl rfl (Nat.le_of_ble_eq_true rfl) ?_
  show Run g l uX6_writeRow _ 0 [(0, .ref v0), (1, .int v1), (2, .int v2), (3, .int v3)] [] 0 0 S
  unfold F_X6_writeRow at h
  refine r_iconst (v := (0 : Int32)) dX6_writeRow_0 (by decide) ?_
  refine r_istore (lv' := [(4, .int ((0 : Int32))), (0, .ref v0), (1, .int v1), (2, .int v2), (3, .int v3)]) dX6_writeRow_1 (by decide) rfl ?_
  refine r_iconst (v := (0 : Int32)) dX6_writeRow_3 (by decide) ?_
  refine r_istore (lv' := [(5, .int ((0 : Int32))), (4, .int ((0 : Int32))), (0, .ref v0), (1, .int v1), (2, .int v2), (3, .int v3)]) dX6_writeRow_4 (by decide) rfl ?_
  refine r_sub [2, 3, 4, 5, 1, 0] rfl ?_
  exact T_X6_writeRow_L6 hl FU v0 v1 v2 v3 (0 : Int32) (0 : Int32) S h

