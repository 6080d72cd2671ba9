def F_X2_close_L9 : Nat → Nat → Nat → Int32 → Mem → Option Mem
  | 0, _, _, _, _ => none
  | fu + 1, v0, v2, v3, S =>
    (pgI 2 1 S v0).bind fun t1 =>
    if (t1 - (1 : Int32)) ≤ v3 then
      (pgI 2 1 S v0).bind fun t3 =>
      (ppI 2 1 S v0 (t3 - (1 : Int32))).bind fun S4 =>
      (pgR 2 0 S4 v0).bind fun t5 =>
      (pgI 2 1 S4 v0).bind fun t6 =>
      (psR S4 t5 t6 v2).bind fun S7 =>
      some S7
    else
      (pgR 2 0 S v0).bind fun t8 =>
      (pgR 2 0 S v0).bind fun t9 =>
      (paR S t9 (v3 + (1 : Int32))).bind fun t10 =>
      (psR S t8 v3 t10).bind fun S11 =>
      F_X2_close_L9 fu v0 v2 (v3 + 1) S11
set_option maxRecDepth 100000 in
theorem T_X2_close_L9 {g : GG} {l : Launch} (hl : l.stackTraces = false) {S' : Mem}  : ∀ (fu : Nat) (v0 : Nat) (v2 : Nat) (v3 : Int32) (S : Mem), F_X2_close_L9 fu v0 v2 v3 S = some S' → Run g l uX2_close (fin g uX2_close cvV S') 9 [(0, .ref v0), (2, .ref v2), (3, .int v3)] [] 0 0 S := by
  intro fu
  induction fu with
  | zero =>
    intro v0 v2 v3 S h
    cases (show none = some _ from h)
  | succ fu ih =>
    intro v0 v2 v3 S h
    unfold F_X2_close_L9 at h
    refine r_iload_n dX2_close_9 rfl 2 rfl ?_
    refine r_aload_n dX2_close_10 rfl 0 rfl ?_
    obtain ⟨t1, h0, h⟩ := bd h
    refine q_getI h0 dX2_close_11 fl2_18 rfl ?_
    refine r_iconst (v := (1 : Int32)) dX2_close_14 (by decide) ?_
    refine r_isub dX2_close_15 ?_
    refine r_icmp_ge (tgt := 39) dX2_close_16 (by decide) (fun c2 => ?_) (fun c2 => ?_)
    · rw [if_pos c2] at h
      refine r_aload_n dX2_close_39 rfl 0 rfl ?_
      refine r_dup dX2_close_40 rfl ?_
      obtain ⟨t3, h0, h⟩ := bd h
      refine q_getI h0 dX2_close_41 fl2_18 rfl ?_
      refine r_iconst (v := (1 : Int32)) dX2_close_44 (by decide) ?_
      refine r_isub dX2_close_45 ?_
      obtain ⟨S4, h0, h⟩ := bd h
      refine q_putI h0 dX2_close_46 fl2_18 rfl ?_
      refine r_aload_n dX2_close_49 rfl 0 rfl ?_
      obtain ⟨t5, h0, h⟩ := bd h
      refine q_getR h0 dX2_close_50 fl2_11 rfl ?_
      refine r_aload_n dX2_close_53 rfl 0 rfl ?_
      obtain ⟨t6, h0, h⟩ := bd h
      refine q_getI h0 dX2_close_54 fl2_18 rfl ?_
      refine r_aload_n dX2_close_57 rfl 1 rfl ?_
      obtain ⟨S7, h0, h⟩ := bd h
      refine q_aastore h0 dX2_close_58 ?_
      cases h
      exact r_return dX2_close_59 rfl (by decide) (by decide)
    · rw [if_neg c2] at h
      refine r_aload_n dX2_close_19 rfl 0 rfl ?_
      obtain ⟨t8, h0, h⟩ := bd h
      refine q_getR h0 dX2_close_20 fl2_11 rfl ?_
      refine r_iload_n dX2_close_23 rfl 2 rfl ?_
      refine r_aload_n dX2_close_24 rfl 0 rfl ?_
      obtain ⟨t9, h0, h⟩ := bd h
      refine q_getR h0 dX2_close_25 fl2_11 rfl ?_
      refine r_iload_n dX2_close_28 rfl 2 rfl ?_
      refine r_iconst (v := (1 : Int32)) dX2_close_29 (by decide) ?_
      refine r_iadd dX2_close_30 ?_
      obtain ⟨t10, h0, h⟩ := bd h
      refine q_aaload h0 dX2_close_31 ?_
      obtain ⟨S11, h0, h⟩ := bd h
      refine q_aastore h0 dX2_close_32 ?_
      refine r_iinc (v := v3 + 1) (lv' := [(3, .int (v3 + 1)), (0, .ref v0), (2, .ref v2)]) dX2_close_33 2 rfl rfl (by decide) rfl ?_
      refine r_goto (tgt := 9) dX2_close_36 (by decide) ?_
      refine r_sub [1, 2, 0] rfl ?_
      exact ih v0 v2 (v3 + 1) S11 h

def F_X2_close (v0 : Nat) (v1 : Int32) (S : Mem) : Option Mem :=
    (pgR 2 0 S v0).bind fun t12 =>
    (paR S t12 v1).bind fun t13 =>
    F_X2_close_L9 FU v0 t13 v1 S
set_option maxRecDepth 100000 in
theorem T_X2_close {g : GG} {l : Launch} (hl : l.stackTraces = false) {v0 : Nat} {v1 : Int32} {S S' : Mem} (h : F_X2_close v0 v1 S = some S') : Call g l uX2_close [.ref v0, .int v1] S cvV S' := by
  refine call_of (by decide +kernel) hl rfl (Nat.le_of_ble_eq_true rfl) ?_
  show Run g l uX2_close _ 0 [(0, .ref v0), (1, .int v1)] [] 0 0 S
  unfold F_X2_close at h
  refine r_aload_n dX2_close_0 rfl 0 rfl ?_
  obtain ⟨t12, h0, h⟩ := bd h
  refine q_getR h0 dX2_close_1 fl2_11 rfl ?_
  refine r_iload_n dX2_close_4 rfl 1 rfl ?_
  obtain ⟨t13, h0, h⟩ := bd h
  refine q_aaload h0 dX2_close_5 ?_
  refine r_astore_n (lv' := [(2, .ref t13), (0, .ref v0), (1, .int v1)]) dX2_close_6 rfl (by decide) rfl ?_
  refine r_iload_n dX2_close_7 rfl 2 rfl ?_
  refine r_istore_n (lv' := [(3, .int v1), (2, .ref t13), (0, .ref v0), (1, .int v1)]) dX2_close_8 rfl (by decide) rfl ?_
  refine r_sub [2, 1, 0] rfl ?_
  exact T_X2_close_L9 hl FU v0 t13 v1 S h

def F_X5_remove (v0 : Nat) (v1 : Int32) (S : Mem) : Option ((Unit ⊕ String) × Mem) :=
    (pk 5 S v0).bind fun _ =>
    bdx (F_X5_requireRecord v0 v1 S) fun _ S3 =>
    (pgR 5 1 S3 v0).bind fun t5 =>
    (pk 2 S3 t5).bind fun _ =>
    (F_X2_close t5 v1 S3).bind fun S8 =>
    some (.inl (), S8)
set_option maxRecDepth 100000 in
theorem T_X5_remove {g : GG} {l : Launch} (hl : l.stackTraces = false) {v0 : Nat} {v1 : Int32} {S S' : Mem} {r : Unit ⊕ String} (h : F_X5_remove v0 v1 S = some (r, S')) : Call g l uX5_remove [.ref v0, .int v1] S (cxV r) S' := by
  refine call_of (by decide +kernel) hl rfl (Nat.le_of_ble_eq_true rfl) ?_
  show Run g l uX5_remove _ 0 [(0, .ref v0), (1, .int v1)] [] 0 0 S
  unfold F_X5_remove at h
  refine r_aload_n dX5_remove_0 rfl 0 rfl ?_
  refine r_iload_n dX5_remove_1 rfl 1 rfl ?_
  obtain ⟨z1, hk, h⟩ := bd h
  rcases bdx_s h with ⟨t2, S3, h0, h⟩ | ⟨e4, h0, rfl⟩
  · refine r_invV (As := [.int v1]) (st := []) dX5_remove_2 lv5_177 (by unfold RM; decide) (Nat.le_of_ble_eq_true rfl) rfl rfl (pk_ok hk) (T_X5_requireRecord hl h0) ?_
    refine r_aload_n dX5_remove_5 rfl 0 rfl ?_
    obtain ⟨t5, h0, h⟩ := bd h
    refine q_getR h0 dX5_remove_6 fl5_19 rfl ?_
    refine r_iload_n dX5_remove_9 rfl 1 rfl ?_
    obtain ⟨z6, hk, h⟩ := bd h
    obtain ⟨S8, h0, h⟩ := bd h
    refine r_invV (As := [.int v1]) (st := []) dX5_remove_10 lv5_181 (by unfold RM; decide) (Nat.le_of_ble_eq_true rfl) rfl rfl (pk_ok hk) (T_X2_close hl h0) ?_
    cases h
    exact r_return dX5_remove_13 rfl (by decide) (by decide)
  · exact r_invV_x (As := [.int v1]) (st := []) dX5_remove_2 lv5_177 (by unfold RM; decide) (Nat.le_of_ble_eq_true rfl) rfl rfl (pk_ok hk) rfl rfl (T_X5_requireRecord hl h0)

def F_X4_isLastBaseShared_L2 : Nat → Nat → Int32 → Mem → Option (Int32 × Mem)
  | 0, _, _, _ => none
  | fu + 1, v0, v1, S =>
    (pgI 4 2 S v0).bind fun t1 =>
    if t1 ≤ v1 then
      some ((1 : Int32), S)
    else
      (pgR 4 3 S v0).bind fun t3 =>
      (paI S t3 v1).bind fun t4 =>
      (pgR 4 3 S v0).bind fun t5 =>
      (paI S t5 (0 : Int32)).bind fun t6 =>
      if (t4 &&& (3 : Int32)) = (t6 &&& (3 : Int32)) then
        F_X4_isLastBaseShared_L2 fu v0 (v1 + 1) S
      else
        some ((0 : Int32), S)
set_option maxRecDepth 100000 in
theorem T_X4_isLastBaseShared_L2 {g : GG} {l : Launch} (hl : l.stackTraces = false) {S' : Mem} {r : Int32}  : ∀ (fu : Nat) (v0 : Nat) (v1 : Int32) (S : Mem), F_X4_isLastBaseShared_L2 fu v0 v1 S = some (r, S') → Run g l uX4_isLastBaseShared (fin g uX4_isLastBaseShared (cvI r) S') 2 [(0, .ref v0), (1, .int v1)] [] 0 0 S := by
  intro fu
  induction fu with
  | zero =>
    intro v0 v1 S h
    cases (show none = some _ from h)
  | succ fu ih =>
    intro v0 v1 S h
    unfold F_X4_isLastBaseShared_L2 at h
    refine r_iload_n dX4_isLastBaseShared_2 rfl 1 rfl ?_
    refine r_aload_n dX4_isLastBaseShared_3 rfl 0 rfl ?_
    obtain ⟨t1, h0, h⟩ := bd h
    refine q_getI h0 dX4_isLastBaseShared_4 fl4_38 rfl ?_
    refine r_icmp_ge (tgt := 37) dX4_isLastBaseShared_7 (by decide) (fun c2 => ?_) (fun c2 => ?_)
    · rw [if_pos c2] at h
      refine r_iconst (v := (1 : Int32)) dX4_isLastBaseShared_37 (by decide) ?_
      cases h
      exact r_ireturn dX4_isLastBaseShared_38 rfl (by decide) (by decide) (by decide)
    · rw [if_neg c2] at h
      refine r_aload_n dX4_isLastBaseShared_10 rfl 0 rfl ?_
      obtain ⟨t3, h0, h⟩ := bd h
      refine q_getR h0 dX4_isLastBaseShared_11 fl4_9 rfl ?_
      refine r_iload_n dX4_isLastBaseShared_14 rfl 1 rfl ?_
      obtain ⟨t4, h0, h⟩ := bd h
      refine q_iaload h0 dX4_isLastBaseShared_15 ?_
      refine r_iconst (v := (3 : Int32)) dX4_isLastBaseShared_16 (by decide) ?_
      refine r_iand dX4_isLastBaseShared_17 ?_
      refine r_aload_n dX4_isLastBaseShared_18 rfl 0 rfl ?_
      obtain ⟨t5, h0, h⟩ := bd h
      refine q_getR h0 dX4_isLastBaseShared_19 fl4_9 rfl ?_
      refine r_iconst (v := (0 : Int32)) dX4_isLastBaseShared_22 (by decide) ?_
      obtain ⟨t6, h0, h⟩ := bd h
      refine q_iaload h0 dX4_isLastBaseShared_23 ?_
      refine r_iconst (v := (3 : Int32)) dX4_isLastBaseShared_24 (by decide) ?_
      refine r_iand dX4_isLastBaseShared_25 ?_
      refine r_icmp_eq (tgt := 31) dX4_isLastBaseShared_26 (by decide) (fun c7 => ?_) (fun c7 => ?_)
      · rw [if_pos c7] at h
        refine r_iinc (v := v1 + 1) (lv' := [(1, .int (v1 + 1)), (0, .ref v0)]) dX4_isLastBaseShared_31 1 rfl rfl (by decide) rfl ?_
        refine r_goto (tgt := 2) dX4_isLastBaseShared_34 (by decide) ?_
        refine r_sub [1, 0] rfl ?_
        exact ih v0 (v1 + 1) S h
      · rw [if_neg c7] at h
        refine r_iconst (v := (0 : Int32)) dX4_isLastBaseShared_29 (by decide) ?_
        cases h
        exact r_ireturn dX4_isLastBaseShared_30 rfl (by decide) (by decide) (by decide)

def F_X4_isLastBaseShared (v0 : Nat) (S : Mem) : Option (Int32 × Mem) :=
    F_X4_isLastBaseShared_L2 FU v0 (1 : Int32) S
set_option maxRecDepth 100000 in
theorem T_X4_isLastBaseShared {g : GG} {l : Launch} (hl : l.stackTraces = false) {v0 : Nat} {S S' : Mem} {r : Int32} (h : F_X4_isLastBaseShared v0 S = some (r, S')) : Call g l uX4_isLastBaseShared [.ref v0] S (cvI r) S' := by
  refine call_of (by decide +kernel) hl rfl (Nat.le_of_ble_eq_true rfl) ?_
  show Run g l uX4_isLastBaseShared _ 0 [(0, .ref v0)] [] 0 0 S
  unfold F_X4_isLastBaseShared at h
  refine r_iconst (v := (1 : Int32)) dX4_isLastBaseShared_0 (by decide) ?_
  refine r_istore_n (lv' := [(1, .int ((1 : Int32))), (0, .ref v0)]) dX4_isLastBaseShared_1 rfl (by decide) rfl ?_
  refine r_sub [1, 0] rfl ?_
  exact T_X4_isLastBaseShared_L2 hl FU v0 (1 : Int32) S h

def F_X4_shortest_L9 : Nat → Nat → Int32 → Int32 → Mem → Option (Int32 × Mem)
  | 0, _, _, _, _ => none
  | fu + 1, v0, v1, v2, S =>
    (pgI 4 2 S v0).bind fun t1 =>
    if t1 ≤ v2 then
      some (v1, S)
    else
      (pgR 4 4 S v0).bind fun t3 =>
      (paI S t3 v2).bind fun t4 =>
      F_X4_shortest_L9 fu v0 (if t4 < v1 then t4 else v1) (v2 + 1) S
set_option maxRecDepth 100000 in
theorem T_X4_shortest_L9 {g : GG} {l : Launch} (hl : l.stackTraces = false) {S' : Mem} {r : Int32}  : ∀ (fu : Nat) (v0 : Nat) (v1 : Int32) (v2 : Int32) (S : Mem), F_X4_shortest_L9 fu v0 v1 v2 S = some (r, S') → Run g l uX4_shortest (fin g uX4_shortest (cvI r) S') 9 [(0, .ref v0), (1, .int v1), (2, .int v2)] [] 0 0 S := by
  intro fu
  induction fu with
  | zero =>
    intro v0 v1 v2 S h
    cases (show none = some _ from h)
  | succ fu ih =>
    intro v0 v1 v2 S h
    unfold F_X4_shortest_L9 at h
    refine r_iload_n dX4_shortest_9 rfl 2 rfl ?_
    refine r_aload_n dX4_shortest_10 rfl 0 rfl ?_
    obtain ⟨t1, h0, h⟩ := bd h
    refine q_getI h0 dX4_shortest_11 fl4_38 rfl ?_
    refine r_icmp_ge (tgt := 34) dX4_shortest_14 (by decide) (fun c2 => ?_) (fun c2 => ?_)
    · rw [if_pos c2] at h
      refine r_iload_n dX4_shortest_34 rfl 1 rfl ?_
      cases h
      exact r_ireturn dX4_shortest_35 rfl rfl (by decide) (by decide)
    · rw [if_neg c2] at h
      refine r_iload_n dX4_shortest_17 rfl 1 rfl ?_
      refine r_aload_n dX4_shortest_18 rfl 0 rfl ?_
      obtain ⟨t3, h0, h⟩ := bd h
      refine q_getR h0 dX4_shortest_19 fl4_15 rfl ?_
      refine r_iload_n dX4_shortest_22 rfl 2 rfl ?_
      obtain ⟨t4, h0, h⟩ := bd h
      refine q_iaload h0 dX4_shortest_23 ?_
      refine r_min dX4_shortest_24 wm4_88 w_min (by decide) (Nat.le_of_ble_eq_true rfl) (by decide) (by decide) ?_
      refine r_istore_n (lv' := [(1, .int ((if t4 < v1 then t4 else v1))), (0, .ref v0), (2, .int v2)]) dX4_shortest_27 rfl (by decide) rfl ?_
      refine r_iinc (v := v2 + 1) (lv' := [(2, .int (v2 + 1)), (1, .int ((if t4 < v1 then t4 else v1))), (0, .ref v0)]) dX4_shortest_28 2 rfl rfl (by decide) rfl ?_
      refine r_goto (tgt := 9) dX4_shortest_31 (by decide) ?_
      refine r_sub [2, 1, 0] rfl ?_
      exact ih v0 (if t4 < v1 then t4 else v1) (v2 + 1) S h

def F_X4_shortest (v0 : Nat) (S : Mem) : Option (Int32 × Mem) :=
    (pgR 4 4 S v0).bind fun t5 =>
    (paI S t5 (0 : Int32)).bind fun t6 =>
    F_X4_shortest_L9 FU v0 t6 (1 : Int32) S
set_option maxRecDepth 100000 in
theorem T_X4_shortest {g : GG} {l : Launch} (hl : l.stackTraces = false) {v0 : Nat} {S S' : Mem} {r : Int32} (h : F_X4_shortest v0 S = some (r, S')) : Call g l uX4_shortest [.ref v0] S (cvI r) S' := by
  refine call_of (by decide +kernel) hl rfl (Nat.le_of_ble_eq_true rfl) ?_
  show Run g l uX4_shortest _ 0 [(0, .ref v0)] [] 0 0 S
  unfold F_X4_shortest at h
  refine r_aload_n dX4_shortest_0 rfl 0 rfl ?_
  obtain ⟨t5, h0, h⟩ := bd h
  refine q_getR h0 dX4_shortest_1 fl4_15 rfl ?_
  refine r_iconst (v := (0 : Int32)) dX4_shortest_4 (by decide) ?_
  obtain ⟨t6, h0, h⟩ := bd h
  refine q_iaload h0 dX4_shortest_5 ?_
  refine r_istore_n (lv' := [(1, .int t6), (0, .ref v0)]) dX4_shortest_6 rfl (by decide) rfl ?_
  refine r_iconst (v := (1 : Int32)) dX4_shortest_7 (by decide) ?_
  refine r_istore_n (lv' := [(2, .int ((1 : Int32))), (1, .int t6), (0, .ref v0)]) dX4_shortest_8 rfl (by decide) rfl ?_
  refine r_sub [2, 1, 0] rfl ?_
  exact T_X4_shortest_L9 hl FU v0 t6 (1 : Int32) S h

def F_X4_putInFront_L2 : Nat → Nat → Int32 → Int32 → Mem → Option Mem
  | 0, _, _, _, _ => none
  | fu + 1, v0, v1, v2, S =>
    (pgI 4 2 S v0).bind fun t1 =>
    if t1 ≤ v2 then
      some S
    else
      (pgR 4 3 S v0).bind fun t3 =>
      (pgR 4 3 S v0).bind fun t4 =>
      (paI S t4 v2).bind fun t5 =>
      (pgR 4 4 S v0).bind fun t6 =>
      (paI S t6 v2).bind fun t7 =>
      (psI S t3 v2 (t5 ||| (v1 <<< (((2 : Int32) * t7) &&& 31)))).bind fun S8 =>
      (pgR 4 4 S8 v0).bind fun t9 =>
      (paI S8 t9 v2).bind fun t10 =>
      (psI S8 t9 v2 (t10 + (1 : Int32))).bind fun S11 =>
      F_X4_putInFront_L2 fu v0 v1 (v2 + 1) S11
set_option maxRecDepth 100000 in
theorem T_X4_putInFront_L2 {g : GG} {l : Launch} (hl : l.stackTraces = false) {S' : Mem}  : ∀ (fu : Nat) (v0 : Nat) (v1 : Int32) (v2 : Int32) (S : Mem), F_X4_putInFront_L2 fu v0 v1 v2 S = some S' → Run g l uX4_putInFront (fin g uX4_putInFront cvV S') 2 [(0, .ref v0), (1, .int v1), (2, .int v2)] [] 0 0 S := by
  intro fu
  induction fu with
  | zero =>
    intro v0 v1 v2 S h
    cases (show none = some _ from h)
  | succ fu ih =>
    intro v0 v1 v2 S h
    unfold F_X4_putInFront_L2 at h
    refine r_iload_n dX4_putInFront_2 rfl 2 rfl ?_
    refine r_aload_n dX4_putInFront_3 rfl 0 rfl ?_
    obtain ⟨t1, h0, h⟩ := bd h
    refine q_getI h0 dX4_putInFront_4 fl4_38 rfl ?_
    refine r_icmp_ge (tgt := 49) dX4_putInFront_7 (by decide) (fun c2 => ?_) (fun c2 => ?_)
    · rw [if_pos c2] at h
      cases h
      exact r_return dX4_putInFront_49 rfl (by decide) (by decide)
    · rw [if_neg c2] at h
      refine r_aload_n dX4_putInFront_10 rfl 0 rfl ?_
      obtain ⟨t3, h0, h⟩ := bd h
      refine q_getR h0 dX4_putInFront_11 fl4_9 rfl ?_
      refine r_iload_n dX4_putInFront_14 rfl 2 rfl ?_
      refine r_aload_n dX4_putInFront_15 rfl 0 rfl ?_
      obtain ⟨t4, h0, h⟩ := bd h
      refine q_getR h0 dX4_putInFront_16 fl4_9 rfl ?_
      refine r_iload_n dX4_putInFront_19 rfl 2 rfl ?_
      obtain ⟨t5, h0, h⟩ := bd h
      refine q_iaload h0 dX4_putInFront_20 ?_
      refine r_iload_n dX4_putInFront_21 rfl 1 rfl ?_
      refine r_iconst (v := (2 : Int32)) dX4_putInFront_22 (by decide) ?_
      refine r_aload_n dX4_putInFront_23 rfl 0 rfl ?_
      obtain ⟨t6, h0, h⟩ := bd h
      refine q_getR h0 dX4_putInFront_24 fl4_15 rfl ?_
      refine r_iload_n dX4_putInFront_27 rfl 2 rfl ?_
      obtain ⟨t7, h0, h⟩ := bd h
      refine q_iaload h0 dX4_putInFront_28 ?_
      refine r_imul dX4_putInFront_29 ?_
      refine r_ishl dX4_putInFront_30 ?_
      refine r_ior dX4_putInFront_31 ?_
      obtain ⟨S8, h0, h⟩ := bd h
      refine q_iastore h0 dX4_putInFront_32 ?_
      refine r_aload_n dX4_putInFront_33 rfl 0 rfl ?_
      obtain ⟨t9, h0, h⟩ := bd h
      refine q_getR h0 dX4_putInFront_34 fl4_15 rfl ?_
      refine r_iload_n dX4_putInFront_37 rfl 2 rfl ?_
      refine r_dup2 dX4_putInFront_38 rfl rfl ?_
      obtain ⟨t10, h0, h⟩ := bd h
      refine q_iaload h0 dX4_putInFront_39 ?_
      refine r_iconst (v := (1 : Int32)) dX4_putInFront_40 (by decide) ?_
      refine r_iadd dX4_putInFront_41 ?_
      obtain ⟨S11, h0, h⟩ := bd h
      refine q_iastore h0 dX4_putInFront_42 ?_
      refine r_iinc (v := v2 + 1) (lv' := [(2, .int (v2 + 1)), (0, .ref v0), (1, .int v1)]) dX4_putInFront_43 2 rfl rfl (by decide) rfl ?_
      refine r_goto (tgt := 2) dX4_putInFront_46 (by decide) ?_
      refine r_sub [1, 2, 0] rfl ?_
      exact ih v0 v1 (v2 + 1) S11 h

def F_X4_putInFront (v0 : Nat) (v1 : Int32) (S : Mem) : Option Mem :=
    F_X4_putInFront_L2 FU v0 v1 (0 : Int32) S
set_option maxRecDepth 100000 in
theorem T_X4_putInFront {g : GG} {l : Launch} (hl : l.stackTraces = false) {v0 : Nat} {v1 : Int32} {S S' : Mem} (h : F_X4_putInFront v0 v1 S = some S') : Call g l uX4_putInFront [.ref v0, .int v1] S cvV S' := by
  refine call_of (by decide +kernel) hl rfl (Nat.le_of_ble_eq_true rfl) ?_
  show Run g l uX4_putInFront _ 0 [(0, .ref v0), (1, .int v1)] [] 0 0 S
  unfold F_X4_putInFront at h
  refine r_iconst (v := (0 : Int32)) dX4_putInFront_0 (by decide) ?_
  refine r_istore_n (lv' := [(2, .int ((0 : Int32))), (0, .ref v0), (1, .int v1)]) dX4_putInFront_1 rfl (by decide) rfl ?_
  refine r_sub [1, 2, 0] rfl ?_
  exact T_X4_putInFront_L2 hl FU v0 v1 (0 : Int32) S h

def F_X4_trimEnd_L27 : Nat → Nat → Nat → Int32 → Mem → Option (Int32 × Mem)
  | 0, _, _, _, _ => none
  | fu + 1, v0, v1, v2, S =>
    (pgI 4 2 S v0).bind fun t1 =>
    if t1 ≤ v2 then
      (pk 4 S v0).bind fun _ =>
      bd2 (F_X4_shortest v0 S) fun t4 S5 =>
      if t4 = 0 then
        (pgI 4 0 S5 v0).bind fun t7 =>
        (ppI 4 0 S5 v0 (t7 - (1 : Int32))).bind fun S8 =>
        (pgI 4 0 S8 v0).bind fun t9 =>
        (pk 3 S8 v1).bind fun _ =>
        bd2 (F_X3_packed v1 t9 (1 : Int32) S8) fun t11 S12 =>
        (pk 4 S12 v0).bind fun _ =>
        (F_X4_putInFront v0 t11 S12).bind fun S15 =>
        some ((1 : Int32), S15)
      else
        some ((1 : Int32), S5)
    else
      (pgR 4 3 S v0).bind fun t16 =>
      (pgR 4 3 S v0).bind fun t17 =>
      (paI S t17 v2).bind fun t18 =>
      (psI S t16 v2 (t18 >>> ((2 : Int32) &&& 31))).bind fun S19 =>
      (pgR 4 4 S19 v0).bind fun t20 =>
      (paI S19 t20 v2).bind fun t21 =>
      (psI S19 t20 v2 (t21 - (1 : Int32))).bind fun S22 =>
      F_X4_trimEnd_L27 fu v0 v1 (v2 + 1) S22
set_option maxRecDepth 100000 in
theorem T_X4_trimEnd_L27 {g : GG} {l : Launch} (hl : l.stackTraces = false) {S' : Mem} {r : Int32}  : ∀ (fu : Nat) (v0 : Nat) (v1 : Nat) (v2 : Int32) (S : Mem), F_X4_trimEnd_L27 fu v0 v1 v2 S = some (r, S') → Run g l uX4_trimEnd (fin g uX4_trimEnd (cvI r) S') 27 [(0, .ref v0), (1, .ref v1), (2, .int v2)] [] 0 0 S := by
  intro fu
  induction fu with
  | zero =>
    intro v0 v1 v2 S h
    cases (show none = some _ from h)
  | succ fu ih =>
    intro v0 v1 v2 S h
    unfold F_X4_trimEnd_L27 at h
    refine r_iload_n dX4_trimEnd_27 rfl 2 rfl ?_
    refine r_aload_n dX4_trimEnd_28 rfl 0 rfl ?_
    obtain ⟨t1, h0, h⟩ := bd h
    refine q_getI h0 dX4_trimEnd_29 fl4_38 rfl ?_
    refine r_icmp_ge (tgt := 65) dX4_trimEnd_32 (by decide) (fun c2 => ?_) (fun c2 => ?_)
    · rw [if_pos c2] at h
      refine r_aload_n dX4_trimEnd_65 rfl 0 rfl ?_
      obtain ⟨z3, hk, h⟩ := bd h
      obtain ⟨t4, S5, h0, h⟩ := bd2_s h
      refine r_invV (As := []) (st := []) dX4_trimEnd_66 lv4_70 (by unfold RM; decide) (Nat.le_of_ble_eq_true rfl) rfl rfl (pk_ok hk) (T_X4_shortest hl h0) ?_
      refine r_if_ne (tgt := 95) dX4_trimEnd_69 (by decide) (fun c6 => ?_) (fun c6 => ?_)
      · rw [if_neg c6] at h
        refine r_iconst (v := (1 : Int32)) dX4_trimEnd_95 (by decide) ?_
        cases h
        exact r_ireturn dX4_trimEnd_96 rfl (by decide) (by decide) (by decide)
      · rw [if_pos c6] at h
        refine r_aload_n dX4_trimEnd_72 rfl 0 rfl ?_
        refine r_dup dX4_trimEnd_73 rfl ?_
        obtain ⟨t7, h0, h⟩ := bd h
        refine q_getI h0 dX4_trimEnd_74 fl4_31 rfl ?_
        refine r_iconst (v := (1 : Int32)) dX4_trimEnd_77 (by decide) ?_
        refine r_isub dX4_trimEnd_78 ?_
        obtain ⟨S8, h0, h⟩ := bd h
        refine q_putI h0 dX4_trimEnd_79 fl4_31 rfl ?_
        refine r_aload_n dX4_trimEnd_82 rfl 0 rfl ?_
        refine r_aload_n dX4_trimEnd_83 rfl 1 rfl ?_
        refine r_aload_n dX4_trimEnd_84 rfl 0 rfl ?_
        obtain ⟨t9, h0, h⟩ := bd h
        refine q_getI h0 dX4_trimEnd_85 fl4_31 rfl ?_
        refine r_iconst (v := (1 : Int32)) dX4_trimEnd_88 (by decide) ?_
        obtain ⟨z10, hk, h⟩ := bd h
        obtain ⟨t11, S12, h0, h⟩ := bd2_s h
        refine r_invV (As := [.int t9, .int ((1 : Int32))]) (st := [.ref v0]) dX4_trimEnd_89 lv4_73 (by unfold RM; decide) (Nat.le_of_ble_eq_true rfl) rfl rfl (pk_ok hk) (T_X3_packed hl h0) ?_
        obtain ⟨z13, hk, h⟩ := bd h
        obtain ⟨S15, h0, h⟩ := bd h
        refine r_invV (As := [.int t11]) (st := []) dX4_trimEnd_92 lv4_78 (by unfold RM; decide) (Nat.le_of_ble_eq_true rfl) rfl rfl (pk_ok hk) (T_X4_putInFront hl h0) ?_
        refine r_iconst (v := (1 : Int32)) dX4_trimEnd_95 (by decide) ?_
        cases h
        exact r_ireturn dX4_trimEnd_96 rfl (by decide) (by decide) (by decide)
    · rw [if_neg c2] at h
      refine r_aload_n dX4_trimEnd_35 rfl 0 rfl ?_
      obtain ⟨t16, h0, h⟩ := bd h
      refine q_getR h0 dX4_trimEnd_36 fl4_9 rfl ?_
      refine r_iload_n dX4_trimEnd_39 rfl 2 rfl ?_
      refine r_aload_n dX4_trimEnd_40 rfl 0 rfl ?_
      obtain ⟨t17, h0, h⟩ := bd h
      refine q_getR h0 dX4_trimEnd_41 fl4_9 rfl ?_
      refine r_iload_n dX4_trimEnd_44 rfl 2 rfl ?_
      obtain ⟨t18, h0, h⟩ := bd h
      refine q_iaload h0 dX4_trimEnd_45 ?_
      refine r_iconst (v := (2 : Int32)) dX4_trimEnd_46 (by decide) ?_
      refine r_ishr dX4_trimEnd_47 ?_
      obtain ⟨S19, h0, h⟩ := bd h
      refine q_iastore h0 dX4_trimEnd_48 ?_
      refine r_aload_n dX4_trimEnd_49 rfl 0 rfl ?_
      obtain ⟨t20, h0, h⟩ := bd h
      refine q_getR h0 dX4_trimEnd_50 fl4_15 rfl ?_
      refine r_iload_n dX4_trimEnd_53 rfl 2 rfl ?_
      refine r_dup2 dX4_trimEnd_54 rfl rfl ?_
      obtain ⟨t21, h0, h⟩ := bd h
      refine q_iaload h0 dX4_trimEnd_55 ?_
      refine r_iconst (v := (1 : Int32)) dX4_trimEnd_56 (by decide) ?_
      refine r_isub dX4_trimEnd_57 ?_
      obtain ⟨S22, h0, h⟩ := bd h
      refine q_iastore h0 dX4_trimEnd_58 ?_
      refine r_iinc (v := v2 + 1) (lv' := [(2, .int (v2 + 1)), (0, .ref v0), (1, .ref v1)]) dX4_trimEnd_59 2 rfl rfl (by decide) rfl ?_
      refine r_goto (tgt := 27) dX4_trimEnd_62 (by decide) ?_
      refine r_sub [1, 2, 0] rfl ?_
      exact ih v0 v1 (v2 + 1) S22 h

def F_X4_trimEnd_J25 (v0 : Nat) (v1 : Nat) (S : Mem) : Option (Int32 × Mem) :=
    F_X4_trimEnd_L27 FU v0 v1 (0 : Int32) S
set_option maxRecDepth 100000 in
theorem T_X4_trimEnd_J25 {g : GG} {l : Launch} (hl : l.stackTraces = false) {S' : Mem} {r : Int32}  : ∀ (v0 : Nat) (v1 : Nat) (S : Mem), F_X4_trimEnd_J25 v0 v1 S = some (r, S') → Run g l uX4_trimEnd (fin g uX4_trimEnd (cvI r) S') 25 [(0, .ref v0), (1, .ref v1)] [] 0 0 S := by
  intro v0 v1 S h
  unfold F_X4_trimEnd_J25 at h
  refine r_iconst (v := (0 : Int32)) dX4_trimEnd_25 (by decide) ?_
  refine r_istore_n (lv' := [(2, .int ((0 : Int32))), (0, .ref v0), (1, .ref v1)]) dX4_trimEnd_26 rfl (by decide) rfl ?_
  refine r_sub [1, 2, 0] rfl ?_
  exact T_X4_trimEnd_L27 hl FU v0 v1 (0 : Int32) S h

def F_X4_trimEnd (v0 : Nat) (v1 : Nat) (S : Mem) : Option (Int32 × Mem) :=
    (pk 4 S v0).bind fun _ =>
    bd2 (F_X4_isLastBaseShared v0 S) fun t24 S25 =>
    if t24 = 0 then
      some ((0 : Int32), S25)
    else
      (pgI 4 0 S25 v0).bind fun t27 =>
      if t27 = (1 : Int32) then
        (pk 4 S25 v0).bind fun _ =>
        bd2 (F_X4_shortest v0 S25) fun t30 S31 =>
        if (2 : Int32) ≤ t30 then
          F_X4_trimEnd_J25 v0 v1 S31
        else
          some ((0 : Int32), S31)
      else
        F_X4_trimEnd_J25 v0 v1 S25
set_option maxRecDepth 100000 in
theorem T_X4_trimEnd {g : GG} {l : Launch} (hl : l.stackTraces = false) {v0 : Nat} {v1 : Nat} {S S' : Mem} {r : Int32} (h : F_X4_trimEnd v0 v1 S = some (r, S')) : Call g l uX4_trimEnd [.ref v0, .ref v1] S (cvI r) S' := by
  refine call_of (by decide +kernel) hl rfl (Nat.le_of_ble_eq_true rfl) ?_
  show Run g l uX4_trimEnd _ 0 [(0, .ref v0), (1, .ref v1)] [] 0 0 S
  unfold F_X4_trimEnd at h
  refine r_aload_n dX4_trimEnd_0 rfl 0 rfl ?_
  obtain ⟨z23, hk, h⟩ := bd h
  obtain ⟨t24, S25, h0, h⟩ := bd2_s h
  refine r_invV (As := []) (st := []) dX4_trimEnd_1 lv4_67 (by unfold RM; decide) (Nat.le_of_ble_eq_true rfl) rfl rfl (pk_ok hk) (T_X4_isLastBaseShared hl h0) ?_
  refine r_if_eq (tgt := 23) dX4_trimEnd_4 (by decide) (fun c26 => ?_) (fun c26 => ?_)
  · rw [if_pos c26] at h
    refine r_iconst (v := (0 : Int32)) dX4_trimEnd_23 (by decide) ?_
    cases h
    exact r_ireturn dX4_trimEnd_24 rfl (by decide) (by decide) (by decide)
  · rw [if_neg c26] at h
    refine r_aload_n dX4_trimEnd_7 rfl 0 rfl ?_
    obtain ⟨t27, h0, h⟩ := bd h
    refine q_getI h0 dX4_trimEnd_8 fl4_31 rfl ?_
    refine r_iconst (v := (1 : Int32)) dX4_trimEnd_11 (by decide) ?_
    refine r_icmp_ne (tgt := 25) dX4_trimEnd_12 (by decide) (fun c28 => ?_) (fun c28 => ?_)
    · rw [if_neg c28] at h
      exact T_X4_trimEnd_J25 hl v0 v1 S25 h
    · rw [if_pos c28] at h
      refine r_aload_n dX4_trimEnd_15 rfl 0 rfl ?_
      obtain ⟨z29, hk, h⟩ := bd h
      obtain ⟨t30, S31, h0, h⟩ := bd2_s h
      refine r_invV (As := []) (st := []) dX4_trimEnd_16 lv4_70 (by unfold RM; decide) (Nat.le_of_ble_eq_true rfl) rfl rfl (pk_ok hk) (T_X4_shortest hl h0) ?_
      refine r_iconst (v := (2 : Int32)) dX4_trimEnd_19 (by decide) ?_
      refine r_icmp_ge (tgt := 25) dX4_trimEnd_20 (by decide) (fun c32 => ?_) (fun c32 => ?_)
      · rw [if_pos c32] at h
        exact T_X4_trimEnd_J25 hl v0 v1 S31 h
      · rw [if_neg c32] at h
        refine r_iconst (v := (0 : Int32)) dX4_trimEnd_23 (by decide) ?_
        cases h
        exact r_ireturn dX4_trimEnd_24 rfl (by decide) (by decide) (by decide)

def F_X4_isFirstBaseShared_L20 : Nat → Nat → Int32 → Int32 → Mem → Option (Int32 × Mem)
  | 0, _, _, _, _ => none
  | fu + 1, v0, v1, v2, S =>
    (pgI 4 2 S v0).bind fun t1 =>
    if t1 ≤ v2 then
      some ((1 : Int32), S)
    else
      (pgR 4 3 S v0).bind fun t3 =>
      (paI S t3 v2).bind fun t4 =>
      (pgR 4 4 S v0).bind fun t5 =>
      (paI S t5 v2).bind fun t6 =>
      bd2 (F_X5_baseOf t4.toInt64 t6 (0 : Int32) S) fun t7 S8 =>
      if t7 = v1 then
        F_X4_isFirstBaseShared_L20 fu v0 v1 (v2 + 1) S8
      else
        some ((0 : Int32), S8)
set_option maxRecDepth 100000 in
theorem T_X4_isFirstBaseShared_L20 {g : GG} {l : Launch} (hl : l.stackTraces = false) {S' : Mem} {r : Int32}  : ∀ (fu : Nat) (v0 : Nat) (v1 : Int32) (v2 : Int32) (S : Mem), F_X4_isFirstBaseShared_L20 fu v0 v1 v2 S = some (r, S') → Run g l uX4_isFirstBaseShared (fin g uX4_isFirstBaseShared (cvI r) S') 20 [(0, .ref v0), (1, .int v1), (2, .int v2)] [] 0 0 S := by
  intro fu
  induction fu with
  | zero =>
    intro v0 v1 v2 S h
    cases (show none = some _ from h)
  | succ fu ih =>
    intro v0 v1 v2 S h
    unfold F_X4_isFirstBaseShared_L20 at h
    refine r_iload_n dX4_isFirstBaseShared_20 rfl 2 rfl ?_
    refine r_aload_n dX4_isFirstBaseShared_21 rfl 0 rfl ?_
    obtain ⟨t1, h0, h⟩ := bd h
    refine q_getI h0 dX4_isFirstBaseShared_22 fl4_38 rfl ?_
    refine r_icmp_ge (tgt := 57) dX4_isFirstBaseShared_25 (by decide) (fun c2 => ?_) (fun c2 => ?_)
    · rw [if_pos c2] at h
      refine r_iconst (v := (1 : Int32)) dX4_isFirstBaseShared_57 (by decide) ?_
      cases h
      exact r_ireturn dX4_isFirstBaseShared_58 rfl (by decide) (by decide) (by decide)
    · rw [if_neg c2] at h
      refine r_aload_n dX4_isFirstBaseShared_28 rfl 0 rfl ?_
      obtain ⟨t3, h0, h⟩ := bd h
      refine q_getR h0 dX4_isFirstBaseShared_29 fl4_9 rfl ?_
      refine r_iload_n dX4_isFirstBaseShared_32 rfl 2 rfl ?_
      obtain ⟨t4, h0, h⟩ := bd h
      refine q_iaload h0 dX4_isFirstBaseShared_33 ?_
      refine r_i2l dX4_isFirstBaseShared_34 ?_
      refine r_aload_n dX4_isFirstBaseShared_35 rfl 0 rfl ?_
      obtain ⟨t5, h0, h⟩ := bd h
      refine q_getR h0 dX4_isFirstBaseShared_36 fl4_15 rfl ?_
      refine r_iload_n dX4_isFirstBaseShared_39 rfl 2 rfl ?_
      obtain ⟨t6, h0, h⟩ := bd h
      refine q_iaload h0 dX4_isFirstBaseShared_40 ?_
      refine r_iconst (v := (0 : Int32)) dX4_isFirstBaseShared_41 (by decide) ?_
      obtain ⟨t7, S8, h0, h⟩ := bd2_s h
      refine r_invN (As := [.long t4.toInt64, .int t6, .int ((0 : Int32))]) (st := []) dX4_isFirstBaseShared_42 ln4_93 (by unfold RM; decide) (Nat.le_of_ble_eq_true rfl) rfl rfl (T_X5_baseOf hl h0) ?_
      refine r_iload_n dX4_isFirstBaseShared_45 rfl 1 rfl ?_
      refine r_icmp_eq (tgt := 51) dX4_isFirstBaseShared_46 (by decide) (fun c9 => ?_) (fun c9 => ?_)
      · rw [if_pos c9] at h
        refine r_iinc (v := v2 + 1) (lv' := [(2, .int (v2 + 1)), (0, .ref v0), (1, .int v1)]) dX4_isFirstBaseShared_51 2 rfl rfl (by decide) rfl ?_
        refine r_goto (tgt := 20) dX4_isFirstBaseShared_54 (by decide) ?_
        refine r_sub [1, 2, 0] rfl ?_
        exact ih v0 v1 (v2 + 1) S8 h
      · rw [if_neg c9] at h
        refine r_iconst (v := (0 : Int32)) dX4_isFirstBaseShared_49 (by decide) ?_
        cases h
        exact r_ireturn dX4_isFirstBaseShared_50 rfl (by decide) (by decide) (by decide)

def F_X4_isFirstBaseShared (v0 : Nat) (S : Mem) : Option (Int32 × Mem) :=
    (pgR 4 3 S v0).bind fun t10 =>
    (paI S t10 (0 : Int32)).bind fun t11 =>
    (pgR 4 4 S v0).bind fun t12 =>
    (paI S t12 (0 : Int32)).bind fun t13 =>
    bd2 (F_X5_baseOf t11.toInt64 t13 (0 : Int32) S) fun t14 S15 =>
    F_X4_isFirstBaseShared_L20 FU v0 t14 (1 : Int32) S15
set_option maxRecDepth 100000 in
theorem T_X4_isFirstBaseShared {g : GG} {l : Launch} (hl : l.stackTraces = false) {v0 : Nat} {S S' : Mem} {r : Int32} (h : F_X4_isFirstBaseShared v0 S = some (r, S')) : Call g l uX4_isFirstBaseShared [.ref v0] S (cvI r) S' := by
  refine call_of (by decide +kernel) hl rfl (Nat.le_of_ble_eq_true rfl) ?_
  show Run g l uX4_isFirstBaseShared _ 0 [(0, .ref v0)] [] 0 0 S
  unfold F_X4_isFirstBaseShared at h
  refine r_aload_n dX4_isFirstBaseShared_0 rfl 0 rfl ?_
  obtain ⟨t10, h0, h⟩ := bd h
  refine q_getR h0 dX4_isFirstBaseShared_1 fl4_9 rfl ?_
  refine r_iconst (v := (0 : Int32)) dX4_isFirstBaseShared_4 (by decide) ?_
  obtain ⟨t11, h0, h⟩ := bd h
  refine q_iaload h0 dX4_isFirstBaseShared_5 ?_
  refine r_i2l dX4_isFirstBaseShared_6 ?_
  refine r_aload_n dX4_isFirstBaseShared_7 rfl 0 rfl ?_
  obtain ⟨t12, h0, h⟩ := bd h
  refine q_getR h0 dX4_isFirstBaseShared_8 fl4_15 rfl ?_
  refine r_iconst (v := (0 : Int32)) dX4_isFirstBaseShared_11 (by decide) ?_
  obtain ⟨t13, h0, h⟩ := bd h
  refine q_iaload h0 dX4_isFirstBaseShared_12 ?_
  refine r_iconst (v := (0 : Int32)) dX4_isFirstBaseShared_13 (by decide) ?_
  obtain ⟨t14, S15, h0, h⟩ := bd2_s h
  refine r_invN (As := [.long t11.toInt64, .int t13, .int ((0 : Int32))]) (st := []) dX4_isFirstBaseShared_14 ln4_93 (by unfold RM; decide) (Nat.le_of_ble_eq_true rfl) rfl rfl (T_X5_baseOf hl h0) ?_
  refine r_istore_n (lv' := [(1, .int t14), (0, .ref v0)]) dX4_isFirstBaseShared_17 rfl (by decide) rfl ?_
  refine r_iconst (v := (1 : Int32)) dX4_isFirstBaseShared_18 (by decide) ?_
  refine r_istore_n (lv' := [(2, .int ((1 : Int32))), (1, .int t14), (0, .ref v0)]) dX4_isFirstBaseShared_19 rfl (by decide) rfl ?_
  refine r_sub [2, 1, 0] rfl ?_
  exact T_X4_isFirstBaseShared_L20 hl FU v0 t14 (1 : Int32) S15 h

def F_X4_trimFront_L19 : Nat → Nat → Int32 → Mem → Option (Int32 × Mem)
  | 0, _, _, _ => none
  | fu + 1, v0, v1, S =>
    (pgI 4 2 S v0).bind fun t1 =>
    if t1 ≤ v1 then
      (pgI 4 0 S v0).bind fun t3 =>
      (ppI 4 0 S v0 (t3 + (1 : Int32))).bind fun S4 =>
      some ((1 : Int32), S4)
    else
      (pgR 4 4 S v0).bind fun t5 =>
      (paI S t5 v1).bind fun t6 =>
      (psI S t5 v1 (t6 - (1 : Int32))).bind fun S7 =>
      (pgR 4 3 S7 v0).bind fun t8 =>
      (pgR 4 3 S7 v0).bind fun t9 =>
      (paI S7 t9 v1).bind fun t10 =>
      (pgR 4 4 S7 v0).bind fun t11 =>
      (paI S7 t11 v1).bind fun t12 =>
      bd2 (F_X5_lowBases t12 S7) fun t13 S14 =>
      (psI S14 t8 v1 (t10 &&& t13)).bind fun S15 =>
      F_X4_trimFront_L19 fu v0 (v1 + 1) S15
set_option maxRecDepth 100000 in
theorem T_X4_trimFront_L19 {g : GG} {l : Launch} (hl : l.stackTraces = false) {S' : Mem} {r : Int32}  : ∀ (fu : Nat) (v0 : Nat) (v1 : Int32) (S : Mem), F_X4_trimFront_L19 fu v0 v1 S = some (r, S') → Run g l uX4_trimFront (fin g uX4_trimFront (cvI r) S') 19 [(0, .ref v0), (1, .int v1)] [] 0 0 S := by
  intro fu
  induction fu with
  | zero =>
    intro v0 v1 S h
    cases (show none = some _ from h)
  | succ fu ih =>
    intro v0 v1 S h
    unfold F_X4_trimFront_L19 at h
    refine r_iload_n dX4_trimFront_19 rfl 1 rfl ?_
    refine r_aload_n dX4_trimFront_20 rfl 0 rfl ?_
    obtain ⟨t1, h0, h⟩ := bd h
    refine q_getI h0 dX4_trimFront_21 fl4_38 rfl ?_
    refine r_icmp_ge (tgt := 65) dX4_trimFront_24 (by decide) (fun c2 => ?_) (fun c2 => ?_)
    · rw [if_pos c2] at h
      refine r_aload_n dX4_trimFront_65 rfl 0 rfl ?_
      refine r_dup dX4_trimFront_66 rfl ?_
      obtain ⟨t3, h0, h⟩ := bd h
      refine q_getI h0 dX4_trimFront_67 fl4_31 rfl ?_
      refine r_iconst (v := (1 : Int32)) dX4_trimFront_70 (by decide) ?_
      refine r_iadd dX4_trimFront_71 ?_
      obtain ⟨S4, h0, h⟩ := bd h
      refine q_putI h0 dX4_trimFront_72 fl4_31 rfl ?_
      refine r_iconst (v := (1 : Int32)) dX4_trimFront_75 (by decide) ?_
      cases h
      exact r_ireturn dX4_trimFront_76 rfl (by decide) (by decide) (by decide)
    · rw [if_neg c2] at h
      refine r_aload_n dX4_trimFront_27 rfl 0 rfl ?_
      obtain ⟨t5, h0, h⟩ := bd h
      refine q_getR h0 dX4_trimFront_28 fl4_15 rfl ?_
      refine r_iload_n dX4_trimFront_31 rfl 1 rfl ?_
      refine r_dup2 dX4_trimFront_32 rfl rfl ?_
      obtain ⟨t6, h0, h⟩ := bd h
      refine q_iaload h0 dX4_trimFront_33 ?_
      refine r_iconst (v := (1 : Int32)) dX4_trimFront_34 (by decide) ?_
      refine r_isub dX4_trimFront_35 ?_
      obtain ⟨S7, h0, h⟩ := bd h
      refine q_iastore h0 dX4_trimFront_36 ?_
      refine r_aload_n dX4_trimFront_37 rfl 0 rfl ?_
      obtain ⟨t8, h0, h⟩ := bd h
      refine q_getR h0 dX4_trimFront_38 fl4_9 rfl ?_
      refine r_iload_n dX4_trimFront_41 rfl 1 rfl ?_
      refine r_aload_n dX4_trimFront_42 rfl 0 rfl ?_
      obtain ⟨t9, h0, h⟩ := bd h
      refine q_getR h0 dX4_trimFront_43 fl4_9 rfl ?_
      refine r_iload_n dX4_trimFront_46 rfl 1 rfl ?_
      obtain ⟨t10, h0, h⟩ := bd h
      refine q_iaload h0 dX4_trimFront_47 ?_
      refine r_aload_n dX4_trimFront_48 rfl 0 rfl ?_
      obtain ⟨t11, h0, h⟩ := bd h
      refine q_getR h0 dX4_trimFront_49 fl4_15 rfl ?_
      refine r_iload_n dX4_trimFront_52 rfl 1 rfl ?_
      obtain ⟨t12, h0, h⟩ := bd h
      refine q_iaload h0 dX4_trimFront_53 ?_
      obtain ⟨t13, S14, h0, h⟩ := bd2_s h
      refine r_invN (As := [.int t12]) (st := [.int t10, .int v1, .ref t8]) dX4_trimFront_54 ln4_84 (by unfold RM; decide) (Nat.le_of_ble_eq_true rfl) rfl rfl (T_X5_lowBases hl h0) ?_
      refine r_iand dX4_trimFront_57 ?_
      obtain ⟨S15, h0, h⟩ := bd h
      refine q_iastore h0 dX4_trimFront_58 ?_
      refine r_iinc (v := v1 + 1) (lv' := [(1, .int (v1 + 1)), (0, .ref v0)]) dX4_trimFront_59 1 rfl rfl (by decide) rfl ?_
      refine r_goto (tgt := 19) dX4_trimFront_62 (by decide) ?_
      refine r_sub [1, 0] rfl ?_
      exact ih v0 (v1 + 1) S15 h

def F_X4_trimFront (v0 : Nat) (S : Mem) : Option (Int32 × Mem) :=
    (pk 4 S v0).bind fun _ =>
    bd2 (F_X4_shortest v0 S) fun t17 S18 =>
    if t17 < (2 : Int32) then
      some ((0 : Int32), S18)
    else
      (pk 4 S18 v0).bind fun _ =>
      bd2 (F_X4_isFirstBaseShared v0 S18) fun t21 S22 =>
      if t21 = 0 then
        some ((0 : Int32), S22)
      else
        F_X4_trimFront_L19 FU v0 (0 : Int32) S22
set_option maxRecDepth 100000 in
theorem T_X4_trimFront {g : GG} {l : Launch} (hl : l.stackTraces = false) {v0 : Nat} {S S' : Mem} {r : Int32} (h : F_X4_trimFront v0 S = some (r, S')) : Call g l uX4_trimFront [.ref v0] S (cvI r) S' := by
  refine call_of (by decide +kernel) hl rfl (Nat.le_of_ble_eq_true rfl) ?_
  show Run g l uX4_trimFront _ 0 [(0, .ref v0)] [] 0 0 S
  unfold F_X4_trimFront at h
  refine r_aload_n dX4_trimFront_0 rfl 0 rfl ?_
  obtain ⟨z16, hk, h⟩ := bd h
  obtain ⟨t17, S18, h0, h⟩ := bd2_s h
  refine r_invV (As := []) (st := []) dX4_trimFront_1 lv4_70 (by unfold RM; decide) (Nat.le_of_ble_eq_true rfl) rfl rfl (pk_ok hk) (T_X4_shortest hl h0) ?_
  refine r_iconst (v := (2 : Int32)) dX4_trimFront_4 (by decide) ?_
  refine r_icmp_lt (tgt := 15) dX4_trimFront_5 (by decide) (fun c19 => ?_) (fun c19 => ?_)
  · rw [if_pos c19] at h
    refine r_iconst (v := (0 : Int32)) dX4_trimFront_15 (by decide) ?_
    cases h
    exact r_ireturn dX4_trimFront_16 rfl (by decide) (by decide) (by decide)
  · rw [if_neg c19] at h
    refine r_aload_n dX4_trimFront_8 rfl 0 rfl ?_
    obtain ⟨z20, hk, h⟩ := bd h
    obtain ⟨t21, S22, h0, h⟩ := bd2_s h
    refine r_invV (As := []) (st := []) dX4_trimFront_9 lv4_81 (by unfold RM; decide) (Nat.le_of_ble_eq_true rfl) rfl rfl (pk_ok hk) (T_X4_isFirstBaseShared hl h0) ?_
    refine r_if_ne (tgt := 17) dX4_trimFront_12 (by decide) (fun c23 => ?_) (fun c23 => ?_)
    · rw [if_neg c23] at h
      refine r_iconst (v := (0 : Int32)) dX4_trimFront_17 (by decide) ?_
      refine r_istore_n (lv' := [(1, .int ((0 : Int32))), (0, .ref v0)]) dX4_trimFront_18 rfl (by decide) rfl ?_
      refine r_sub [1, 0] rfl ?_
      exact T_X4_trimFront_L19 hl FU v0 (0 : Int32) S22 h
    · rw [if_pos c23] at h
      refine r_iconst (v := (0 : Int32)) dX4_trimFront_15 (by decide) ?_
      cases h
      exact r_ireturn dX4_trimFront_16 rfl (by decide) (by decide) (by decide)

def F_X4_trim_J35 (K4 : Nat → Nat → Int32 → Int32 → Mem → Option Mem) (v0 : Nat) (v1 : Nat) (v3 : Int32) (s0 : Int32) (S : Mem) : Option Mem :=
    K4 v0 v1 s0 (v3 + 1) S
set_option maxRecDepth 100000 in
theorem T_X4_trim_J35 {g : GG} {l : Launch} (hl : l.stackTraces = false) {S' : Mem}  {K4 : Nat → Nat → Int32 → Int32 → Mem → Option Mem} (hK4 : ∀ (v0 : Nat) (v1 : Nat) (v2 : Int32) (v3 : Int32) (S : Mem), K4 v0 v1 v2 v3 S = some S' → Run g l uX4_trim (fin g uX4_trim cvV S') 4 [(0, .ref v0), (1, .ref v1), (2, .int v2), (3, .int v3)] [] 0 0 S) : ∀ (v0 : Nat) (v1 : Nat) (v3 : Int32) (s0 : Int32) (S : Mem), F_X4_trim_J35 K4 v0 v1 v3 s0 S = some S' → Run g l uX4_trim (fin g uX4_trim cvV S') 35 [(0, .ref v0), (1, .ref v1), (3, .int v3)] [.int s0] 0 0 S := by
  intro v0 v1 v3 s0 S h
  unfold F_X4_trim_J35 at h
  refine r_istore_n (lv' := [(2, .int s0), (0, .ref v0), (1, .ref v1), (3, .int v3)]) dX4_trim_35 rfl (by decide) rfl ?_
  refine r_iinc (v := v3 + 1) (lv' := [(3, .int (v3 + 1)), (2, .int s0), (0, .ref v0), (1, .ref v1)]) dX4_trim_36 3 rfl rfl (by decide) rfl ?_
  refine r_goto (tgt := 4) dX4_trim_39 (by decide) ?_
  refine r_sub [2, 3, 1, 0] rfl ?_
  exact hK4 v0 v1 s0 (v3 + 1) S h

def F_X4_trim_J30 (K4 : Nat → Nat → Int32 → Int32 → Mem → Option Mem) (v0 : Nat) (v1 : Nat) (v3 : Int32) (S : Mem) : Option Mem :=
    F_X4_trim_J35 K4 v0 v1 v3 (1 : Int32) S
set_option maxRecDepth 100000 in
theorem T_X4_trim_J30 {g : GG} {l : Launch} (hl : l.stackTraces = false) {S' : Mem}  {K4 : Nat → Nat → Int32 → Int32 → Mem → Option Mem} (hK4 : ∀ (v0 : Nat) (v1 : Nat) (v2 : Int32) (v3 : Int32) (S : Mem), K4 v0 v1 v2 v3 S = some S' → Run g l uX4_trim (fin g uX4_trim cvV S') 4 [(0, .ref v0), (1, .ref v1), (2, .int v2), (3, .int v3)] [] 0 0 S) : ∀ (v0 : Nat) (v1 : Nat) (v3 : Int32) (S : Mem), F_X4_trim_J30 K4 v0 v1 v3 S = some S' → Run g l uX4_trim (fin g uX4_trim cvV S') 30 [(0, .ref v0), (1, .ref v1), (3, .int v3)] [] 0 0 S := by
  intro v0 v1 v3 S h
  unfold F_X4_trim_J30 at h
  refine r_iconst (v := (1 : Int32)) dX4_trim_30 (by decide) ?_
  refine r_goto (tgt := 35) dX4_trim_31 (by decide) ?_
  exact T_X4_trim_J35 hl hK4 v0 v1 v3 (1 : Int32) S h

def F_X4_trim_L4 : Nat → Nat → Nat → Int32 → Int32 → Mem → Option Mem
  | 0, _, _, _, _, _ => none
  | fu + 1, v0, v1, v2, v3, S =>
    if v2 = 0 then
      some S
    else
      if (1000 : Int32) ≤ v3 then
        some S
      else
        (pk 4 S v0).bind fun _ =>
        bd2 (F_X4_trimEnd v0 v1 S) fun t4 S5 =>
        if t4 = 0 then
          (pk 4 S5 v0).bind fun _ =>
          bd2 (F_X4_trimFront v0 S5) fun t8 S9 =>
          if t8 = 0 then
            F_X4_trim_J35 (F_X4_trim_L4 fu) v0 v1 v3 (0 : Int32) S9
          else
            F_X4_trim_J30 (F_X4_trim_L4 fu) v0 v1 v3 S9
        else
          F_X4_trim_J30 (F_X4_trim_L4 fu) v0 v1 v3 S5
set_option maxRecDepth 100000 in
theorem T_X4_trim_L4 {g : GG} {l : Launch} (hl : l.stackTraces = false) {S' : Mem}  : ∀ (fu : Nat) (v0 : Nat) (v1 : Nat) (v2 : Int32) (v3 : Int32) (S : Mem), F_X4_trim_L4 fu v0 v1 v2 v3 S = some S' → Run g l uX4_trim (fin g uX4_trim cvV S') 4 [(0, .ref v0), (1, .ref v1), (2, .int v2), (3, .int v3)] [] 0 0 S := by
  intro fu
  induction fu with
  | zero =>
    intro v0 v1 v2 v3 S h
    cases (show none = some _ from h)
  | succ fu ih =>
    intro v0 v1 v2 v3 S h
    unfold F_X4_trim_L4 at h
    refine r_iload_n dX4_trim_4 rfl 2 rfl ?_
    refine r_if_eq (tgt := 42) dX4_trim_5 (by decide) (fun c1 => ?_) (fun c1 => ?_)
    · rw [if_pos c1] at h
      cases h
      exact r_return dX4_trim_42 rfl (by decide) (by decide)
    · rw [if_neg c1] at h
      refine r_iload_n dX4_trim_8 rfl 3 rfl ?_
      refine r_sipush (v := (1000 : Int32)) dX4_trim_9 (by decide) ?_
      refine r_icmp_ge (tgt := 42) dX4_trim_12 (by decide) (fun c2 => ?_) (fun c2 => ?_)
      · rw [if_pos c2] at h
        cases h
        exact r_return dX4_trim_42 rfl (by decide) (by decide)
      · rw [if_neg c2] at h
        refine r_aload_n dX4_trim_15 rfl 0 rfl ?_
        refine r_aload_n dX4_trim_16 rfl 1 rfl ?_
        obtain ⟨z3, hk, h⟩ := bd h
        obtain ⟨t4, S5, h0, h⟩ := bd2_s h
        refine r_invV (As := [.ref v1]) (st := []) dX4_trim_17 lv4_59 (by unfold RM; decide) (Nat.le_of_ble_eq_true rfl) rfl rfl (pk_ok hk) (T_X4_trimEnd hl h0) ?_
        refine r_if_ne (tgt := 30) dX4_trim_20 (by decide) (fun c6 => ?_) (fun c6 => ?_)
        · rw [if_neg c6] at h
          refine r_sub [0, 1, 3] rfl ?_
          exact T_X4_trim_J30 hl (fun v0 v1 v2 v3 S h => ih v0 v1 v2 v3 S h) v0 v1 v3 S5 h
        · rw [if_pos c6] at h
          refine r_aload_n dX4_trim_23 rfl 0 rfl ?_
          obtain ⟨z7, hk, h⟩ := bd h
          obtain ⟨t8, S9, h0, h⟩ := bd2_s h
          refine r_invV (As := []) (st := []) dX4_trim_24 lv4_63 (by unfold RM; decide) (Nat.le_of_ble_eq_true rfl) rfl rfl (pk_ok hk) (T_X4_trimFront hl h0) ?_
          refine r_if_eq (tgt := 34) dX4_trim_27 (by decide) (fun c10 => ?_) (fun c10 => ?_)
          · rw [if_pos c10] at h
            refine r_iconst (v := (0 : Int32)) dX4_trim_34 (by decide) ?_
            refine r_sub [0, 1, 3] rfl ?_
            exact T_X4_trim_J35 hl (fun v0 v1 v2 v3 S h => ih v0 v1 v2 v3 S h) v0 v1 v3 (0 : Int32) S9 h
          · rw [if_neg c10] at h
            refine r_sub [0, 1, 3] rfl ?_
            exact T_X4_trim_J30 hl (fun v0 v1 v2 v3 S h => ih v0 v1 v2 v3 S h) v0 v1 v3 S9 h

def F_X4_trim (v0 : Nat) (v1 : Nat) (S : Mem) : Option Mem :=
    F_X4_trim_L4 FU v0 v1 (1 : Int32) (0 : Int32) S
set_option maxRecDepth 100000 in
theorem T_X4_trim {g : GG} {l : Launch} (hl : l.stackTraces = false) {v0 : Nat} {v1 : Nat} {S S' : Mem} (h : F_X4_trim v0 v1 S = some S') : Call g l uX4_trim [.ref v0, .ref v1] S cvV S' := by
  refine call_of (by decide +kernel) hl rfl (Nat.le_of_ble_eq_true rfl) ?_
  show Run g l uX4_trim _ 0 [(0, .ref v0), (1, .ref v1)] [] 0 0 S
  unfold F_X4_trim at h
  refine r_iconst (v := (1 : Int32)) dX4_trim_0 (by decide) ?_
  refine r_istore_n (lv' := [(2, .int ((1 : Int32))), (0, .ref v0), (1, .ref v1)]) dX4_trim_1 rfl (by decide) rfl ?_
  refine r_iconst (v := (0 : Int32)) dX4_trim_2 (by decide) ?_
  refine r_istore_n (lv' := [(3, .int ((0 : Int32))), (2, .int ((1 : Int32))), (0, .ref v0), (1, .ref v1)]) dX4_trim_3 rfl (by decide) rfl ?_
  refine r_sub [2, 3, 1, 0] rfl ?_
  exact T_X4_trim_L4 hl FU v0 v1 (1 : Int32) (0 : Int32) S h

def F_X5_normalise (v0 : Nat) (v1 : Int32) (S : Mem) : Option ((Int32 ⊕ String) × Mem) :=
    (pk 5 S v0).bind fun _ =>
    bdx (F_X5_requireRecord v0 v1 S) fun _ S3 =>
    (pgR 5 4 S3 v0).bind fun t5 =>
    (pgR 5 1 S3 v0).bind fun t6 =>
    (pgR 2 0 S3 t6).bind fun t7 =>
    (paR S3 t7 v1).bind fun t8 =>
    (pk 4 S3 t5).bind fun _ =>
    (F_X4_copy t5 t8 S3).bind fun S11 =>
    (pgR 5 4 S11 v0).bind fun t12 =>
    (pgR 5 0 S11 v0).bind fun t13 =>
    (pk 4 S11 t12).bind fun _ =>
    (F_X4_trim t12 t13 S11).bind fun S16 =>
    (pgR 5 1 S16 v0).bind fun t17 =>
    (pk 2 S16 t17).bind fun _ =>
    (F_X2_close t17 v1 S16).bind fun S20 =>
    (pgR 5 1 S20 v0).bind fun t21 =>
    (pgR 5 4 S20 v0).bind fun t22 =>
    (pk 2 S20 t21).bind fun _ =>
    bd2 (F_X2_insert t21 t22 S20) fun t24 S25 =>
    some (.inl t24, S25)
set_option maxRecDepth 100000 in
theorem T_X5_normalise {g : GG} {l : Launch} (hl : l.stackTraces = false) {v0 : Nat} {v1 : Int32} {S S' : Mem} {r : Int32 ⊕ String} (h : F_X5_normalise v0 v1 S = some (r, S')) : Call g l uX5_normalise [.ref v0, .int v1] S (cxI r) S' := by
  refine call_of (by decide +kernel) hl rfl (Nat.le_of_ble_eq_true rfl) ?_
  show Run g l uX5_normalise _ 0 [(0, .ref v0), (1, .int v1)] [] 0 0 S
  unfold F_X5_normalise at h
  refine r_aload_n dX5_normalise_0 rfl 0 rfl ?_
  refine r_iload_n dX5_normalise_1 rfl 1 rfl ?_
  obtain ⟨z1, hk, h⟩ := bd h
  rcases bdx_s h with ⟨t2, S3, h0, h⟩ | ⟨e4, h0, rfl⟩
  · refine r_invV (As := [.int v1]) (st := []) dX5_normalise_2 lv5_177 (by unfold RM; decide) (Nat.le_of_ble_eq_true rfl) rfl rfl (pk_ok hk) (T_X5_requireRecord hl h0) ?_
    refine r_aload_n dX5_normalise_5 rfl 0 rfl ?_
    obtain ⟨t5, h0, h⟩ := bd h
    refine q_getR h0 dX5_normalise_6 fl5_34 rfl ?_
    refine r_aload_n dX5_normalise_9 rfl 0 rfl ?_
    obtain ⟨t6, h0, h⟩ := bd h
    refine q_getR h0 dX5_normalise_10 fl5_19 rfl ?_
    obtain ⟨t7, h0, h⟩ := bd h
    refine q_getR h0 dX5_normalise_13 fl5_184 rfl ?_
    refine r_iload_n dX5_normalise_16 rfl 1 rfl ?_
    obtain ⟨t8, h0, h⟩ := bd h
    refine q_aaload h0 dX5_normalise_17 ?_
    obtain ⟨z9, hk, h⟩ := bd h
    obtain ⟨S11, h0, h⟩ := bd h
    refine r_invV (As := [.ref t8]) (st := []) dX5_normalise_18 lv5_188 (by unfold RM; decide) (Nat.le_of_ble_eq_true rfl) rfl rfl (pk_ok hk) (T_X4_copy hl h0) ?_
    refine r_aload_n dX5_normalise_21 rfl 0 rfl ?_
    obtain ⟨t12, h0, h⟩ := bd h
    refine q_getR h0 dX5_normalise_22 fl5_34 rfl ?_
    refine r_aload_n dX5_normalise_25 rfl 0 rfl ?_
    obtain ⟨t13, h0, h⟩ := bd h
    refine q_getR h0 dX5_normalise_26 fl5_10 rfl ?_
    obtain ⟨z14, hk, h⟩ := bd h
    obtain ⟨S16, h0, h⟩ := bd h
    refine r_invV (As := [.ref t13]) (st := []) dX5_normalise_29 lv5_192 (by unfold RM; decide) (Nat.le_of_ble_eq_true rfl) rfl rfl (pk_ok hk) (T_X4_trim hl h0) ?_
    refine r_aload_n dX5_normalise_32 rfl 0 rfl ?_
    obtain ⟨t17, h0, h⟩ := bd h
    refine q_getR h0 dX5_normalise_33 fl5_19 rfl ?_
    refine r_iload_n dX5_normalise_36 rfl 1 rfl ?_
    obtain ⟨z18, hk, h⟩ := bd h
    obtain ⟨S20, h0, h⟩ := bd h
    refine r_invV (As := [.int v1]) (st := []) dX5_normalise_37 lv5_181 (by unfold RM; decide) (Nat.le_of_ble_eq_true rfl) rfl rfl (pk_ok hk) (T_X2_close hl h0) ?_
    refine r_aload_n dX5_normalise_40 rfl 0 rfl ?_
    obtain ⟨t21, h0, h⟩ := bd h
    refine q_getR h0 dX5_normalise_41 fl5_19 rfl ?_
    refine r_aload_n dX5_normalise_44 rfl 0 rfl ?_
    obtain ⟨t22, h0, h⟩ := bd h
    refine q_getR h0 dX5_normalise_45 fl5_34 rfl ?_
    obtain ⟨z23, hk, h⟩ := bd h
    obtain ⟨t24, S25, h0, h⟩ := bd2_s h
    refine r_invV (As := [.ref t22]) (st := []) dX5_normalise_48 lv5_173 (by unfold RM; decide) (Nat.le_of_ble_eq_true rfl) rfl rfl (pk_ok hk) (T_X2_insert hl h0) ?_
    cases h
    exact r_ireturn dX5_normalise_51 rfl rfl (by decide) (by decide)
  · exact r_invV_x (As := [.int v1]) (st := []) dX5_normalise_2 lv5_177 (by unfold RM; decide) (Nat.le_of_ble_eq_true rfl) rfl rfl (pk_ok hk) rfl rfl (T_X5_requireRecord hl h0)

def F_X4_appendAlleleOf (v0 : Nat) (v1 : Nat) (v2 : Int32) (S : Mem) : Option Mem :=
    (pgR 4 3 S v1).bind fun t1 =>
    (paI S t1 v2).bind fun t2 =>
    (pgR 4 4 S v1).bind fun t3 =>
    (paI S t3 v2).bind fun t4 =>
    (pk 4 S v0).bind fun _ =>
    (F_X4_appendAllele v0 t2 t4 S).bind fun S7 =>
    (pgR 4 5 S7 v0).bind fun t8 =>
    (pgI 4 2 S7 v0).bind fun t9 =>
    (pgR 4 5 S7 v1).bind fun t10 =>
    (paI S7 t10 v2).bind fun t11 =>
    (psI S7 t8 (t9 - (1 : Int32)) t11).bind fun S12 =>
    some S12
set_option maxRecDepth 100000 in
theorem T_X4_appendAlleleOf {g : GG} {l : Launch} (hl : l.stackTraces = false) {v0 : Nat} {v1 : Nat} {v2 : Int32} {S S' : Mem} (h : F_X4_appendAlleleOf v0 v1 v2 S = some S') : Call g l uX4_appendAlleleOf [.ref v0, .ref v1, .int v2] S cvV S' := by
  refine call_of (by decide +kernel) hl rfl (Nat.le_of_ble_eq_true rfl) ?_
  show Run g l uX4_appendAlleleOf _ 0 [(0, .ref v0), (1, .ref v1), (2, .int v2)] [] 0 0 S
  unfold F_X4_appendAlleleOf at h
  refine r_aload_n dX4_appendAlleleOf_0 rfl 0 rfl ?_
  refine r_aload_n dX4_appendAlleleOf_1 rfl 1 rfl ?_
  obtain ⟨t1, h0, h⟩ := bd h
  refine q_getR h0 dX4_appendAlleleOf_2 fl4_9 rfl ?_
  refine r_iload_n dX4_appendAlleleOf_5 rfl 2 rfl ?_
  obtain ⟨t2, h0, h⟩ := bd h
  refine q_iaload h0 dX4_appendAlleleOf_6 ?_
  refine r_aload_n dX4_appendAlleleOf_7 rfl 1 rfl ?_
  obtain ⟨t3, h0, h⟩ := bd h
  refine q_getR h0 dX4_appendAlleleOf_8 fl4_15 rfl ?_
  refine r_iload_n dX4_appendAlleleOf_11 rfl 2 rfl ?_
  obtain ⟨t4, h0, h⟩ := bd h
  refine q_iaload h0 dX4_appendAlleleOf_12 ?_
  obtain ⟨z5, hk, h⟩ := bd h
  obtain ⟨S7, h0, h⟩ := bd h
  refine r_invV (As := [.int t2, .int t4]) (st := []) dX4_appendAlleleOf_13 lv4_107 (by unfold RM; decide) (Nat.le_of_ble_eq_true rfl) rfl rfl (pk_ok hk) (T_X4_appendAllele hl h0) ?_
  refine r_aload_n dX4_appendAlleleOf_16 rfl 0 rfl ?_
  obtain ⟨t8, h0, h⟩ := bd h
  refine q_getR h0 dX4_appendAlleleOf_17 fl4_18 rfl ?_
  refine r_aload_n dX4_appendAlleleOf_20 rfl 0 rfl ?_
  obtain ⟨t9, h0, h⟩ := bd h
  refine q_getI h0 dX4_appendAlleleOf_21 fl4_38 rfl ?_
  refine r_iconst (v := (1 : Int32)) dX4_appendAlleleOf_24 (by decide) ?_
  refine r_isub dX4_appendAlleleOf_25 ?_
  refine r_aload_n dX4_appendAlleleOf_26 rfl 1 rfl ?_
  obtain ⟨t10, h0, h⟩ := bd h
  refine q_getR h0 dX4_appendAlleleOf_27 fl4_18 rfl ?_
  refine r_iload_n dX4_appendAlleleOf_30 rfl 2 rfl ?_
  obtain ⟨t11, h0, h⟩ := bd h
  refine q_iaload h0 dX4_appendAlleleOf_31 ?_
  obtain ⟨S12, h0, h⟩ := bd h
  refine q_iastore h0 dX4_appendAlleleOf_32 ?_
  cases h
  exact r_return dX4_appendAlleleOf_33 rfl (by decide) (by decide)

def F_X5_pairNumber (v0 : Int32) (v1 : Int32) (S : Mem) : Option (Int32 × Mem) :=
    (pdiv ((if v0 < v1 then v1 else v0) * ((if v0 < v1 then v1 else v0) + (1 : Int32))) (2 : Int32)).bind fun t1 =>
    some (t1 + (if v1 < v0 then v1 else v0), S)
set_option maxRecDepth 100000 in
theorem T_X5_pairNumber {g : GG} {l : Launch} (hl : l.stackTraces = false) {v0 : Int32} {v1 : Int32} {S S' : Mem} {r : Int32} (h : F_X5_pairNumber v0 v1 S = some (r, S')) : Call g l uX5_pairNumber [.int v0, .int v1] S (cvI r) S' := by
  refine call_of (by decide +kernel) hl rfl (Nat.le_of_ble_eq_true rfl) ?_
  show Run g l uX5_pairNumber _ 0 [(0, .int v0), (1, .int v1)] [] 0 0 S
  unfold F_X5_pairNumber at h
  refine r_iload_n dX5_pairNumber_0 rfl 0 rfl ?_
  refine r_iload_n dX5_pairNumber_1 rfl 1 rfl ?_
  refine r_min dX5_pairNumber_2 wm5_283 w_min (by decide) (Nat.le_of_ble_eq_true rfl) (by decide) (by decide) ?_
  refine r_istore_n (lv' := [(2, .int ((if v1 < v0 then v1 else v0))), (0, .int v0), (1, .int v1)]) dX5_pairNumber_5 rfl (by decide) rfl ?_
  refine r_iload_n dX5_pairNumber_6 rfl 1 rfl ?_
  refine r_iload_n dX5_pairNumber_7 rfl 2 rfl ?_
  refine r_max dX5_pairNumber_8 wm5_288 w_max (by decide) (Nat.le_of_ble_eq_true rfl) (by decide) (by decide) ?_
  refine r_istore_n (lv' := [(3, .int ((if v0 < v1 then v1 else v0))), (2, .int ((if v1 < v0 then v1 else v0))), (0, .int v0), (1, .int v1)]) dX5_pairNumber_11 rfl (by decide) rfl ?_
  refine r_iload_n dX5_pairNumber_12 rfl 0 rfl ?_
  refine r_iload_n dX5_pairNumber_13 rfl 0 rfl ?_
  refine r_iconst (v := (1 : Int32)) dX5_pairNumber_14 (by decide) ?_
  refine r_iadd dX5_pairNumber_15 ?_
  refine r_imul dX5_pairNumber_16 ?_
  refine r_iconst (v := (2 : Int32)) dX5_pairNumber_17 (by decide) ?_
  obtain ⟨t1, h0, h⟩ := bd h
  refine q_idiv h0 dX5_pairNumber_18 ?_
  refine r_iload_n dX5_pairNumber_19 rfl 1 rfl ?_
  refine r_iadd dX5_pairNumber_20 ?_
  cases h
  exact r_ireturn dX5_pairNumber_21 rfl rfl (by decide) (by decide)

def F_X4_becomePart_L82 : Nat → Nat → Nat → Int32 → Int32 → Mem → Option Mem
  | 0, _, _, _, _, _ => none
  | fu + 1, v0, v1, v2, v3, S =>
    if (2 : Int32) ≤ v3 then
      some S
    else
      (pgR 4 7 S v0).bind fun t2 =>
      (pgR 4 7 S v1).bind fun t3 =>
      (paZ S t3 v3).bind fun t4 =>
      (psZ S t2 v3 t4).bind fun S5 =>
      (pgR 4 8 S5 v0).bind fun t6 =>
      (pgR 4 8 S5 v1).bind fun t7 =>
      (paI S5 t7 ((10 : Int32) * v3)).bind fun t8 =>
      (psI S5 t6 ((10 : Int32) * v3) t8).bind fun S9 =>
      (pgR 4 8 S9 v0).bind fun t10 =>
      (pgR 4 8 S9 v1).bind fun t11 =>
      bd2 (F_X5_pairNumber (0 : Int32) v2 S9) fun t12 S13 =>
      (paI S13 t11 (((10 : Int32) * v3) + t12)).bind fun t14 =>
      (psI S13 t10 (((10 : Int32) * v3) + (1 : Int32)) t14).bind fun S15 =>
      (pgR 4 8 S15 v0).bind fun t16 =>
      (pgR 4 8 S15 v1).bind fun t17 =>
      bd2 (F_X5_pairNumber v2 v2 S15) fun t18 S19 =>
      (paI S19 t17 (((10 : Int32) * v3) + t18)).bind fun t20 =>
      (psI S19 t16 (((10 : Int32) * v3) + (2 : Int32)) t20).bind fun S21 =>
      F_X4_becomePart_L82 fu v0 v1 v2 (v3 + 1) S21
set_option maxRecDepth 100000 in
theorem T_X4_becomePart_L82 {g : GG} {l : Launch} (hl : l.stackTraces = false) {S' : Mem}  : ∀ (fu : Nat) (v0 : Nat) (v1 : Nat) (v2 : Int32) (v3 : Int32) (S : Mem), F_X4_becomePart_L82 fu v0 v1 v2 v3 S = some S' → Run g l uX4_becomePart (fin g uX4_becomePart cvV S') 82 [(0, .ref v0), (1, .ref v1), (2, .int v2), (3, .int v3)] [] 0 0 S := by
  intro fu
  induction fu with
  | zero =>
    intro v0 v1 v2 v3 S h
    cases (show none = some _ from h)
  | succ fu ih =>
    intro v0 v1 v2 v3 S h
    unfold F_X4_becomePart_L82 at h
    refine r_iload_n dX4_becomePart_82 rfl 3 rfl ?_
    refine r_iconst (v := (2 : Int32)) dX4_becomePart_83 (by decide) ?_
    refine r_icmp_ge (tgt := 169) dX4_becomePart_84 (by decide) (fun c1 => ?_) (fun c1 => ?_)
    · rw [if_pos c1] at h
      cases h
      exact r_return dX4_becomePart_169 rfl (by decide) (by decide)
    · rw [if_neg c1] at h
      refine r_aload_n dX4_becomePart_87 rfl 0 rfl ?_
      obtain ⟨t2, h0, h⟩ := bd h
      refine q_getR h0 dX4_becomePart_88 fl4_24 rfl ?_
      refine r_iload_n dX4_becomePart_91 rfl 3 rfl ?_
      refine r_aload_n dX4_becomePart_92 rfl 1 rfl ?_
      obtain ⟨t3, h0, h⟩ := bd h
      refine q_getR h0 dX4_becomePart_93 fl4_24 rfl ?_
      refine r_iload_n dX4_becomePart_96 rfl 3 rfl ?_
      obtain ⟨t4, h0, h⟩ := bd h
      refine q_baload h0 dX4_becomePart_97 ?_
      obtain ⟨S5, h0, h⟩ := bd h
      refine q_bastore h0 dX4_becomePart_98 ?_
      refine r_bipush (v := (10 : Int32)) dX4_becomePart_99 (by decide) ?_
      refine r_iload_n dX4_becomePart_101 rfl 3 rfl ?_
      refine r_imul dX4_becomePart_102 ?_
      refine r_istore (lv' := [(4, .int ((10 : Int32) * v3)), (0, .ref v0), (1, .ref v1), (2, .int v2), (3, .int v3)]) dX4_becomePart_103 (by decide) rfl ?_
      refine r_aload_n dX4_becomePart_105 rfl 1 rfl ?_
      obtain ⟨t6, h0, h⟩ := bd h
      refine q_getR h0 dX4_becomePart_106 fl4_28 rfl ?_
      refine r_iload dX4_becomePart_109 0 rfl ?_
      refine r_aload_n dX4_becomePart_111 rfl 2 rfl ?_
      obtain ⟨t7, h0, h⟩ := bd h
      refine q_getR h0 dX4_becomePart_112 fl4_28 rfl ?_
      refine r_iload dX4_becomePart_115 0 rfl ?_
      obtain ⟨t8, h0, h⟩ := bd h
      refine q_iaload h0 dX4_becomePart_117 ?_
      obtain ⟨S9, h0, h⟩ := bd h
      refine q_iastore h0 dX4_becomePart_118 ?_
      refine r_aload_n dX4_becomePart_119 rfl 1 rfl ?_
      obtain ⟨t10, h0, h⟩ := bd h
      refine q_getR h0 dX4_becomePart_120 fl4_28 rfl ?_
      refine r_iload dX4_becomePart_123 0 rfl ?_
      refine r_iconst (v := (1 : Int32)) dX4_becomePart_125 (by decide) ?_
      refine r_iadd dX4_becomePart_126 ?_
      refine r_aload_n dX4_becomePart_127 rfl 2 rfl ?_
      obtain ⟨t11, h0, h⟩ := bd h
      refine q_getR h0 dX4_becomePart_128 fl4_28 rfl ?_
      refine r_iload dX4_becomePart_131 0 rfl ?_
      refine r_iconst (v := (0 : Int32)) dX4_becomePart_133 (by decide) ?_
      refine r_iload_n dX4_becomePart_134 rfl 3 rfl ?_
      obtain ⟨t12, S13, h0, h⟩ := bd2_s h
      refine r_invN (As := [.int ((0 : Int32)), .int v2]) (st := [.int ((10 : Int32) * v3), .ref t11, .int (((10 : Int32) * v3) + (1 : Int32)), .ref t10]) dX4_becomePart_135 ln4_104 (by unfold RM; decide) (Nat.le_of_ble_eq_true rfl) rfl rfl (T_X5_pairNumber hl h0) ?_
      refine r_iadd dX4_becomePart_138 ?_
      obtain ⟨t14, h0, h⟩ := bd h
      refine q_iaload h0 dX4_becomePart_139 ?_
      obtain ⟨S15, h0, h⟩ := bd h
      refine q_iastore h0 dX4_becomePart_140 ?_
      refine r_aload_n dX4_becomePart_141 rfl 1 rfl ?_
      obtain ⟨t16, h0, h⟩ := bd h
      refine q_getR h0 dX4_becomePart_142 fl4_28 rfl ?_
      refine r_iload dX4_becomePart_145 0 rfl ?_
      refine r_iconst (v := (2 : Int32)) dX4_becomePart_147 (by decide) ?_
      refine r_iadd dX4_becomePart_148 ?_
      refine r_aload_n dX4_becomePart_149 rfl 2 rfl ?_
      obtain ⟨t17, h0, h⟩ := bd h
      refine q_getR h0 dX4_becomePart_150 fl4_28 rfl ?_
      refine r_iload dX4_becomePart_153 0 rfl ?_
      refine r_iload_n dX4_becomePart_155 rfl 3 rfl ?_
      refine r_iload_n dX4_becomePart_156 rfl 3 rfl ?_
      obtain ⟨t18, S19, h0, h⟩ := bd2_s h
      refine r_invN (As := [.int v2, .int v2]) (st := [.int ((10 : Int32) * v3), .ref t17, .int (((10 : Int32) * v3) + (2 : Int32)), .ref t16]) dX4_becomePart_157 ln4_104 (by unfold RM; decide) (Nat.le_of_ble_eq_true rfl) rfl rfl (T_X5_pairNumber hl h0) ?_
      refine r_iadd dX4_becomePart_160 ?_
      obtain ⟨t20, h0, h⟩ := bd h
      refine q_iaload h0 dX4_becomePart_161 ?_
      obtain ⟨S21, h0, h⟩ := bd h
      refine q_iastore h0 dX4_becomePart_162 ?_
      refine r_iinc (v := v3 + 1) (lv' := [(3, .int (v3 + 1)), (4, .int ((10 : Int32) * v3)), (0, .ref v0), (1, .ref v1), (2, .int v2)]) dX4_becomePart_163 4 rfl rfl (by decide) rfl ?_
      refine r_goto (tgt := 82) dX4_becomePart_166 (by decide) ?_
      refine r_sub [2, 3, 4, 0] rfl ?_
      exact ih v0 v1 v2 (v3 + 1) S21 h

def F_X4_becomePart_J73 (K34 : Nat → Nat → Int32 → Int32 → Mem → Option Mem) (v0 : Nat) (v1 : Nat) (v2 : Int32) (v3 : Int32) (s0 : Nat) (s1 : Int32) (s2 : Int32) (S : Mem) : Option Mem :=
    (psI S s0 s1 s2).bind fun S22 =>
    K34 v0 v1 v2 (v3 + 1) S22
set_option maxRecDepth 100000 in
theorem T_X4_becomePart_J73 {g : GG} {l : Launch} (hl : l.stackTraces = false) {S' : Mem}  {K34 : Nat → Nat → Int32 → Int32 → Mem → Option Mem} (hK34 : ∀ (v0 : Nat) (v1 : Nat) (v2 : Int32) (v3 : Int32) (S : Mem), K34 v0 v1 v2 v3 S = some S' → Run g l uX4_becomePart (fin g uX4_becomePart cvV S') 34 [(0, .ref v0), (1, .ref v1), (2, .int v2), (3, .int v3)] [] 0 0 S) : ∀ (v0 : Nat) (v1 : Nat) (v2 : Int32) (v3 : Int32) (s0 : Nat) (s1 : Int32) (s2 : Int32) (S : Mem), F_X4_becomePart_J73 K34 v0 v1 v2 v3 s0 s1 s2 S = some S' → Run g l uX4_becomePart (fin g uX4_becomePart cvV S') 73 [(0, .ref v0), (1, .ref v1), (2, .int v2), (3, .int v3)] [.int s2, .int s1, .ref s0] 0 0 S := by
  intro v0 v1 v2 v3 s0 s1 s2 S h
  unfold F_X4_becomePart_J73 at h
  obtain ⟨S22, h0, h⟩ := bd h
  refine q_iastore h0 dX4_becomePart_73 ?_
  refine r_iinc (v := v3 + 1) (lv' := [(3, .int (v3 + 1)), (0, .ref v0), (1, .ref v1), (2, .int v2)]) dX4_becomePart_74 3 rfl rfl (by decide) rfl ?_
  refine r_goto (tgt := 34) dX4_becomePart_77 (by decide) ?_
  refine r_sub [1, 2, 3, 0] rfl ?_
  exact hK34 v0 v1 v2 (v3 + 1) S22 h

def F_X4_becomePart_L34 : Nat → Nat → Nat → Int32 → Int32 → Mem → Option Mem
  | 0, _, _, _, _, _ => none
  | fu + 1, v0, v1, v2, v3, S =>
    if (4 : Int32) ≤ v3 then
      F_X4_becomePart_L82 FU v0 v1 v2 (0 : Int32) S
    else
      (pgR 4 6 S v1).bind fun t24 =>
      (paI S t24 v3).bind fun t25 =>
      (pgR 4 6 S v0).bind fun t26 =>
      if t25 = (-1 : Int32) then
        F_X4_becomePart_J73 (F_X4_becomePart_L34 fu) v0 v1 v2 v3 t26 v3 (-1 : Int32) S
      else
        if t25 = v2 then
          F_X4_becomePart_J73 (F_X4_becomePart_L34 fu) v0 v1 v2 v3 t26 v3 (1 : Int32) S
        else
          F_X4_becomePart_J73 (F_X4_becomePart_L34 fu) v0 v1 v2 v3 t26 v3 (0 : Int32) S
set_option maxRecDepth 100000 in
theorem T_X4_becomePart_L34 {g : GG} {l : Launch} (hl : l.stackTraces = false) {S' : Mem}  : ∀ (fu : Nat) (v0 : Nat) (v1 : Nat) (v2 : Int32) (v3 : Int32) (S : Mem), F_X4_becomePart_L34 fu v0 v1 v2 v3 S = some S' → Run g l uX4_becomePart (fin g uX4_becomePart cvV S') 34 [(0, .ref v0), (1, .ref v1), (2, .int v2), (3, .int v3)] [] 0 0 S := by
  intro fu
  induction fu with
  | zero =>
    intro v0 v1 v2 v3 S h
    cases (show none = some _ from h)
  | succ fu ih =>
    intro v0 v1 v2 v3 S h
    unfold F_X4_becomePart_L34 at h
    refine r_iload_n dX4_becomePart_34 rfl 3 rfl ?_
    refine r_iconst (v := (4 : Int32)) dX4_becomePart_35 (by decide) ?_
    refine r_icmp_ge (tgt := 80) dX4_becomePart_36 (by decide) (fun c23 => ?_) (fun c23 => ?_)
    · rw [if_pos c23] at h
      refine r_iconst (v := (0 : Int32)) dX4_becomePart_80 (by decide) ?_
      refine r_istore_n (lv' := [(3, .int ((0 : Int32))), (0, .ref v0), (1, .ref v1), (2, .int v2)]) dX4_becomePart_81 rfl (by decide) rfl ?_
      refine r_sub [1, 2, 3, 0] rfl ?_
      exact T_X4_becomePart_L82 hl FU v0 v1 v2 (0 : Int32) S h
    · rw [if_neg c23] at h
      refine r_aload_n dX4_becomePart_39 rfl 1 rfl ?_
      obtain ⟨t24, h0, h⟩ := bd h
      refine q_getR h0 dX4_becomePart_40 fl4_21 rfl ?_
      refine r_iload_n dX4_becomePart_43 rfl 3 rfl ?_
      obtain ⟨t25, h0, h⟩ := bd h
      refine q_iaload h0 dX4_becomePart_44 ?_
      refine r_istore (lv' := [(4, .int t25), (0, .ref v0), (1, .ref v1), (2, .int v2), (3, .int v3)]) dX4_becomePart_45 (by decide) rfl ?_
      refine r_aload_n dX4_becomePart_47 rfl 1 rfl ?_
      obtain ⟨t26, h0, h⟩ := bd h
      refine q_getR h0 dX4_becomePart_48 fl4_21 rfl ?_
      refine r_iload_n dX4_becomePart_51 rfl 4 rfl ?_
      refine r_iload dX4_becomePart_52 0 rfl ?_
      refine r_iconst (v := (-1 : Int32)) dX4_becomePart_54 (by decide) ?_
      refine r_icmp_ne (tgt := 62) dX4_becomePart_55 (by decide) (fun c27 => ?_) (fun c27 => ?_)
      · rw [if_neg c27] at h
        refine r_iload dX4_becomePart_62 0 rfl ?_
        refine r_iload_n dX4_becomePart_64 rfl 3 rfl ?_
        refine r_icmp_ne (tgt := 72) dX4_becomePart_65 (by decide) (fun c28 => ?_) (fun c28 => ?_)
        · rw [if_neg c28] at h
          refine r_iconst (v := (0 : Int32)) dX4_becomePart_72 (by decide) ?_
          refine r_sub [1, 2, 3, 4] rfl ?_
          exact T_X4_becomePart_J73 hl (fun v0 v1 v2 v3 S h => ih v0 v1 v2 v3 S h) v0 v1 v2 v3 t26 v3 (0 : Int32) S h
        · rw [if_pos c28] at h
          refine r_iconst (v := (1 : Int32)) dX4_becomePart_68 (by decide) ?_
          refine r_goto (tgt := 73) dX4_becomePart_69 (by decide) ?_
          refine r_sub [1, 2, 3, 4] rfl ?_
          exact T_X4_becomePart_J73 hl (fun v0 v1 v2 v3 S h => ih v0 v1 v2 v3 S h) v0 v1 v2 v3 t26 v3 (1 : Int32) S h
      · rw [if_pos c27] at h
        refine r_iconst (v := (-1 : Int32)) dX4_becomePart_58 (by decide) ?_
        refine r_goto (tgt := 73) dX4_becomePart_59 (by decide) ?_
        refine r_sub [1, 2, 3, 4] rfl ?_
        exact T_X4_becomePart_J73 hl (fun v0 v1 v2 v3 S h => ih v0 v1 v2 v3 S h) v0 v1 v2 v3 t26 v3 (-1 : Int32) S h

def F_X4_becomePart (v0 : Nat) (v1 : Nat) (v2 : Int32) (S : Mem) : Option Mem :=
    (pk 4 S v0).bind fun _ =>
    (F_X4_clear v0 S).bind fun S31 =>
    (pgI 4 0 S31 v1).bind fun t32 =>
    (ppI 4 0 S31 v0 t32).bind fun S33 =>
    (pgI 4 1 S33 v1).bind fun t34 =>
    (ppI 4 1 S33 v0 t34).bind fun S35 =>
    (pk 4 S35 v0).bind fun _ =>
    (F_X4_appendAlleleOf v0 v1 (0 : Int32) S35).bind fun S38 =>
    (pk 4 S38 v0).bind fun _ =>
    (F_X4_appendAlleleOf v0 v1 v2 S38).bind fun S41 =>
    F_X4_becomePart_L34 FU v0 v1 v2 (0 : Int32) S41
set_option maxRecDepth 100000 in
theorem T_X4_becomePart {g : GG} {l : Launch} (hl : l.stackTraces = false) {v0 : Nat} {v1 : Nat} {v2 : Int32} {S S' : Mem} (h : F_X4_becomePart v0 v1 v2 S = some S') : Call g l uX4_becomePart [.ref v0, .ref v1, .int v2] S cvV S' := by
  refine call_of (by decide +kernel) hl rfl (Nat.le_of_ble_eq_true rfl) ?_
  show Run g l uX4_becomePart _ 0 [(0, .ref v0), (1, .ref v1), (2, .int v2)] [] 0 0 S
  unfold F_X4_becomePart at h
  refine r_aload_n dX4_becomePart_0 rfl 0 rfl ?_
  obtain ⟨z29, hk, h⟩ := bd h
  obtain ⟨S31, h0, h⟩ := bd h
  refine r_invV (As := []) (st := []) dX4_becomePart_1 lv4_97 (by unfold RM; decide) (Nat.le_of_ble_eq_true rfl) rfl rfl (pk_ok hk) (T_X4_clear hl h0) ?_
  refine r_aload_n dX4_becomePart_4 rfl 0 rfl ?_
  refine r_aload_n dX4_becomePart_5 rfl 1 rfl ?_
  obtain ⟨t32, h0, h⟩ := bd h
  refine q_getI h0 dX4_becomePart_6 fl4_31 rfl ?_
  obtain ⟨S33, h0, h⟩ := bd h
  refine q_putI h0 dX4_becomePart_9 fl4_31 rfl ?_
  refine r_aload_n dX4_becomePart_12 rfl 0 rfl ?_
  refine r_aload_n dX4_becomePart_13 rfl 1 rfl ?_
  obtain ⟨t34, h0, h⟩ := bd h
  refine q_getI h0 dX4_becomePart_14 fl4_35 rfl ?_
  obtain ⟨S35, h0, h⟩ := bd h
  refine q_putI h0 dX4_becomePart_17 fl4_35 rfl ?_
  refine r_aload_n dX4_becomePart_20 rfl 0 rfl ?_
  refine r_aload_n dX4_becomePart_21 rfl 1 rfl ?_
  refine r_iconst (v := (0 : Int32)) dX4_becomePart_22 (by decide) ?_
  obtain ⟨z36, hk, h⟩ := bd h
  obtain ⟨S38, h0, h⟩ := bd h
  refine r_invV (As := [.ref v1, .int ((0 : Int32))]) (st := []) dX4_becomePart_23 lv4_100 (by unfold RM; decide) (Nat.le_of_ble_eq_true rfl) rfl rfl (pk_ok hk) (T_X4_appendAlleleOf hl h0) ?_
  refine r_aload_n dX4_becomePart_26 rfl 0 rfl ?_
  refine r_aload_n dX4_becomePart_27 rfl 1 rfl ?_
  refine r_iload_n dX4_becomePart_28 rfl 2 rfl ?_
  obtain ⟨z39, hk, h⟩ := bd h
  obtain ⟨S41, h0, h⟩ := bd h
  refine r_invV (As := [.ref v1, .int v2]) (st := []) dX4_becomePart_29 lv4_100 (by unfold RM; decide) (Nat.le_of_ble_eq_true rfl) rfl rfl (pk_ok hk) (T_X4_appendAlleleOf hl h0) ?_
  refine r_iconst (v := (0 : Int32)) dX4_becomePart_32 (by decide) ?_
  refine r_istore_n (lv' := [(3, .int ((0 : Int32))), (0, .ref v0), (1, .ref v1), (2, .int v2)]) dX4_becomePart_33 rfl (by decide) rfl ?_
  refine r_sub [1, 2, 3, 0] rfl ?_
  exact T_X4_becomePart_L34 hl FU v0 v1 v2 (0 : Int32) S41 h

def F_X5_split_L87 : Nat → Nat → Int32 → Int32 → Int32 → Mem → Option ((Int32 ⊕ String) × Mem)
  | 0, _, _, _, _, _ => none
  | fu + 1, v0, v1, v2, v3, S =>
    if v2 ≤ v3 then
      some (.inl v2, S)
    else
      (pgR 5 1 S v0).bind fun t2 =>
      (pk 2 S t2).bind fun _ =>
      bd2 (F_X2_open t2 (v1 + v3) S) fun t4 S5 =>
      (pgR 5 4 S5 v0).bind fun t6 =>
      (pk 4 S5 t4).bind fun _ =>
      (F_X4_becomePart t4 t6 (v3 + (1 : Int32)) S5).bind fun S9 =>
      F_X5_split_L87 fu v0 v1 v2 (v3 + 1) S9
set_option maxRecDepth 100000 in
theorem T_X5_split_L87 {g : GG} {l : Launch} (hl : l.stackTraces = false) {S' : Mem} {r : Int32 ⊕ String}  : ∀ (fu : Nat) (v0 : Nat) (v1 : Int32) (v2 : Int32) (v3 : Int32) (S : Mem), F_X5_split_L87 fu v0 v1 v2 v3 S = some (r, S') → Run g l uX5_split (fin g uX5_split (cxI r) S') 87 [(0, .ref v0), (1, .int v1), (2, .int v2), (3, .int v3)] [] 1 6 S := by
  intro fu
  induction fu with
  | zero =>
    intro v0 v1 v2 v3 S h
    cases (show none = some _ from h)
  | succ fu ih =>
    intro v0 v1 v2 v3 S h
    unfold F_X5_split_L87 at h
    refine r_iload_n dX5_split_87 rfl 3 rfl ?_
    refine r_iload_n dX5_split_88 rfl 2 rfl ?_
    refine r_icmp_ge (tgt := 118) dX5_split_89 (by decide) (fun c1 => ?_) (fun c1 => ?_)
    · rw [if_pos c1] at h
      refine r_iload_n dX5_split_118 rfl 2 rfl ?_
      cases h
      exact r_ireturn dX5_split_119 rfl rfl (by decide) (by decide)
    · rw [if_neg c1] at h
      refine r_aload_n dX5_split_92 rfl 0 rfl ?_
      obtain ⟨t2, h0, h⟩ := bd h
      refine q_getR h0 dX5_split_93 fl5_19 rfl ?_
      refine r_iload_n dX5_split_96 rfl 1 rfl ?_
      refine r_iload_n dX5_split_97 rfl 3 rfl ?_
      refine r_iadd dX5_split_98 ?_
      obtain ⟨z3, hk, h⟩ := bd h
      obtain ⟨t4, S5, h0, h⟩ := bd2_s h
      refine r_invV (As := [.int (v1 + v3)]) (st := []) dX5_split_99 lv5_200 (by unfold RM; decide) (Nat.le_of_ble_eq_true rfl) rfl rfl (pk_ok hk) (T_X2_open hl h0) ?_
      refine r_aload_n dX5_split_102 rfl 0 rfl ?_
      obtain ⟨t6, h0, h⟩ := bd h
      refine q_getR h0 dX5_split_103 fl5_34 rfl ?_
      refine r_iload_n dX5_split_106 rfl 3 rfl ?_
      refine r_iconst (v := (1 : Int32)) dX5_split_107 (by decide) ?_
      refine r_iadd dX5_split_108 ?_
      obtain ⟨z7, hk, h⟩ := bd h
      obtain ⟨S9, h0, h⟩ := bd h
      refine r_invV (As := [.ref t6, .int (v3 + (1 : Int32))]) (st := []) dX5_split_109 lv5_204 (by unfold RM; decide) (Nat.le_of_ble_eq_true rfl) rfl rfl (pk_ok hk) (T_X4_becomePart hl h0) ?_
      refine r_iinc (v := v3 + 1) (lv' := [(3, .int (v3 + 1)), (0, .ref v0), (1, .int v1), (2, .int v2)]) dX5_split_112 3 rfl rfl (by decide) rfl ?_
      refine r_goto (tgt := 87) dX5_split_115 (by decide) ?_
      refine r_sub [1, 2, 3, 0] rfl ?_
      exact ih v0 v1 v2 (v3 + 1) S9 h

def F_X5_split (v0 : Nat) (v1 : Int32) (S : Mem) : Option ((Int32 ⊕ String) × Mem) :=
    (pk 5 S v0).bind fun _ =>
    bdx (F_X5_requireRecord v0 v1 S) fun _ S12 =>
    (pgR 5 1 S12 v0).bind fun t14 =>
    (pgR 2 0 S12 t14).bind fun t15 =>
    (paR S12 t15 v1).bind fun t16 =>
    (pgI 4 2 S12 t16).bind fun t17 =>
    if (2 : Int32) ≤ (t17 - (1 : Int32)) then
      (pgR 5 1 S12 v0).bind fun t19 =>
      (pgI 2 1 S12 t19).bind fun t20 =>
      if ((t20 - (1 : Int32)) + (t17 - (1 : Int32))) ≤ (24 : Int32) then
        (pgR 5 4 S12 v0).bind fun t22 =>
        (pgR 5 1 S12 v0).bind fun t23 =>
        (pgR 2 0 S12 t23).bind fun t24 =>
        (paR S12 t24 v1).bind fun t25 =>
        (pk 4 S12 t22).bind fun _ =>
        (F_X4_copy t22 t25 S12).bind fun S28 =>
        (pgR 5 1 S28 v0).bind fun t29 =>
        (pk 2 S28 t29).bind fun _ =>
        (F_X2_close t29 v1 S28).bind fun S32 =>
        F_X5_split_L87 FU v0 v1 (t17 - (1 : Int32)) (0 : Int32) S32
      else
        some (.inr "java/lang/IllegalStateException", S12)
    else
      some (.inr "java/lang/IllegalStateException", S12)
set_option maxRecDepth 100000 in
theorem T_X5_split {g : GG} {l : Launch} (hl : l.stackTraces = false) {v0 : Nat} {v1 : Int32} {S S' : Mem} {r : Int32 ⊕ String} (h : F_X5_split v0 v1 S = some (r, S')) : Call g l uX5_split [.ref v0, .int v1] S (cxI r) S' := by
  refine call_of (by decide +kernel) hl rfl (Nat.le_of_ble_eq_true rfl) ?_
  show Run g l uX5_split _ 0 [(0, .ref v0), (1, .int v1)] [] 0 0 S
  unfold F_X5_split at h
  refine r_aload_n dX5_split_0 rfl 0 rfl ?_
  refine r_iload_n dX5_split_1 rfl 1 rfl ?_
  obtain ⟨z10, hk, h⟩ := bd h
  rcases bdx_s h with ⟨t11, S12, h0, h⟩ | ⟨e13, h0, rfl⟩
  · refine r_invV (As := [.int v1]) (st := []) dX5_split_2 lv5_177 (by unfold RM; decide) (Nat.le_of_ble_eq_true rfl) rfl rfl (pk_ok hk) (T_X5_requireRecord hl h0) ?_
    refine r_aload_n dX5_split_5 rfl 0 rfl ?_
    obtain ⟨t14, h0, h⟩ := bd h
    refine q_getR h0 dX5_split_6 fl5_19 rfl ?_
    obtain ⟨t15, h0, h⟩ := bd h
    refine q_getR h0 dX5_split_9 fl5_184 rfl ?_
    refine r_iload_n dX5_split_12 rfl 1 rfl ?_
    obtain ⟨t16, h0, h⟩ := bd h
    refine q_aaload h0 dX5_split_13 ?_
    obtain ⟨t17, h0, h⟩ := bd h
    refine q_getI h0 dX5_split_14 fl5_105 rfl ?_
    refine r_iconst (v := (1 : Int32)) dX5_split_17 (by decide) ?_
    refine r_isub dX5_split_18 ?_
    refine r_istore_n (lv' := [(2, .int (t17 - (1 : Int32))), (0, .ref v0), (1, .int v1)]) dX5_split_19 rfl (by decide) rfl ?_
    refine r_iload_n dX5_split_20 rfl 0 rfl ?_
    refine r_iconst (v := (2 : Int32)) dX5_split_21 (by decide) ?_
    refine r_icmp_ge (tgt := 35) dX5_split_22 (by decide) (fun c18 => ?_) (fun c18 => ?_)
    · rw [if_pos c18] at h
      refine r_aload_n dX5_split_35 rfl 1 rfl ?_
      obtain ⟨t19, h0, h⟩ := bd h
      refine q_getR h0 dX5_split_36 fl5_19 rfl ?_
      obtain ⟨t20, h0, h⟩ := bd h
      refine q_getI h0 dX5_split_39 fl5_61 rfl ?_
      refine r_iconst (v := (1 : Int32)) dX5_split_42 (by decide) ?_
      refine r_isub dX5_split_43 ?_
      refine r_iload_n dX5_split_44 rfl 0 rfl ?_
      refine r_iadd dX5_split_45 ?_
      refine r_bipush (v := (24 : Int32)) dX5_split_46 (by decide) ?_
      refine r_icmp_le (tgt := 61) dX5_split_48 (by decide) (fun c21 => ?_) (fun c21 => ?_)
      · rw [if_pos c21] at h
        refine r_aload_n dX5_split_61 rfl 1 rfl ?_
        obtain ⟨t22, h0, h⟩ := bd h
        refine q_getR h0 dX5_split_62 fl5_34 rfl ?_
        refine r_aload_n dX5_split_65 rfl 1 rfl ?_
        obtain ⟨t23, h0, h⟩ := bd h
        refine q_getR h0 dX5_split_66 fl5_19 rfl ?_
        obtain ⟨t24, h0, h⟩ := bd h
        refine q_getR h0 dX5_split_69 fl5_184 rfl ?_
        refine r_iload_n dX5_split_72 rfl 2 rfl ?_
        obtain ⟨t25, h0, h⟩ := bd h
        refine q_aaload h0 dX5_split_73 ?_
        obtain ⟨z26, hk, h⟩ := bd h
        obtain ⟨S28, h0, h⟩ := bd h
        refine r_invV (As := [.ref t25]) (st := []) dX5_split_74 lv5_188 (by unfold RM; decide) (Nat.le_of_ble_eq_true rfl) rfl rfl (pk_ok hk) (T_X4_copy hl h0) ?_
        refine r_aload_n dX5_split_77 rfl 1 rfl ?_
        obtain ⟨t29, h0, h⟩ := bd h
        refine q_getR h0 dX5_split_78 fl5_19 rfl ?_
        refine r_iload_n dX5_split_81 rfl 2 rfl ?_
        obtain ⟨z30, hk, h⟩ := bd h
        obtain ⟨S32, h0, h⟩ := bd h
        refine r_invV (As := [.int v1]) (st := []) dX5_split_82 lv5_181 (by unfold RM; decide) (Nat.le_of_ble_eq_true rfl) rfl rfl (pk_ok hk) (T_X2_close hl h0) ?_
        refine r_iconst (v := (0 : Int32)) dX5_split_85 (by decide) ?_
        refine r_istore_n (lv' := [(3, .int ((0 : Int32))), (2, .int (t17 - (1 : Int32))), (0, .ref v0), (1, .int v1)]) dX5_split_86 rfl (by decide) rfl ?_
        refine r_sub [2, 3, 1, 0] rfl ?_
        exact T_X5_split_L87 hl FU v0 v1 (t17 - (1 : Int32)) (0 : Int32) S32 h
      · rw [if_neg c21] at h
        cases h
        exact r_throwS (text := "there would be more than 24 records") tw_65_69 rfl (by decide) dX5_split_51 dX5_split_54 dX5_split_55 dX5_split_57 dX5_split_60 rfl rfl (by decide) (Nat.le_of_ble_eq_true rfl) (by decide) (by decide)
    · rw [if_neg c18] at h
      cases h
      exact r_throwS (text := "the record has two alleles") tw_65_69 rfl (by decide) dX5_split_25 dX5_split_28 dX5_split_29 dX5_split_31 dX5_split_34 rfl rfl (by decide) (Nat.le_of_ble_eq_true rfl) (by decide) (by decide)
  · exact r_invV_x (As := [.int v1]) (st := []) dX5_split_2 lv5_177 (by unfold RM; decide) (Nat.le_of_ble_eq_true rfl) rfl rfl (pk_ok hk) rfl rfl (T_X5_requireRecord hl h0)

def F_X4_lengthenLike_L34 : Nat → Nat → Int32 → Int32 → Int32 → Mem → Option Mem
  | 0, _, _, _, _, _ => none
  | fu + 1, v0, v2, v3, v4, S =>
    (pgI 4 2 S v0).bind fun t1 =>
    if t1 ≤ v4 then
      some S
    else
      (pgR 4 3 S v0).bind fun t3 =>
      (pgR 4 3 S v0).bind fun t4 =>
      (paI S t4 v4).bind fun t5 =>
      (psI S t3 v4 ((t5 <<< (((2 : Int32) * v2) &&& 31)) ||| v3)).bind fun S6 =>
      (pgR 4 4 S6 v0).bind fun t7 =>
      (paI S6 t7 v4).bind fun t8 =>
      (psI S6 t7 v4 (t8 + v2)).bind fun S9 =>
      F_X4_lengthenLike_L34 fu v0 v2 v3 (v4 + 1) S9
set_option maxRecDepth 100000 in
theorem T_X4_lengthenLike_L34 {g : GG} {l : Launch} (hl : l.stackTraces = false) {S' : Mem}  : ∀ (fu : Nat) (v0 : Nat) (v2 : Int32) (v3 : Int32) (v4 : Int32) (S : Mem), F_X4_lengthenLike_L34 fu v0 v2 v3 v4 S = some S' → Run g l uX4_lengthenLike (fin g uX4_lengthenLike cvV S') 34 [(0, .ref v0), (2, .int v2), (3, .int v3), (4, .int v4)] [] 0 0 S := by
  intro fu
  induction fu with
  | zero =>
    intro v0 v2 v3 v4 S h
    cases (show none = some _ from h)
  | succ fu ih =>
    intro v0 v2 v3 v4 S h
    unfold F_X4_lengthenLike_L34 at h
    refine r_iload dX4_lengthenLike_34 3 rfl ?_
    refine r_aload_n dX4_lengthenLike_36 rfl 0 rfl ?_
    obtain ⟨t1, h0, h⟩ := bd h
    refine q_getI h0 dX4_lengthenLike_37 fl4_38 rfl ?_
    refine r_icmp_ge (tgt := 80) dX4_lengthenLike_40 (by decide) (fun c2 => ?_) (fun c2 => ?_)
    · rw [if_pos c2] at h
      cases h
      exact r_return dX4_lengthenLike_80 rfl (by decide) (by decide)
    · rw [if_neg c2] at h
      refine r_aload_n dX4_lengthenLike_43 rfl 0 rfl ?_
      obtain ⟨t3, h0, h⟩ := bd h
      refine q_getR h0 dX4_lengthenLike_44 fl4_9 rfl ?_
      refine r_iload dX4_lengthenLike_47 3 rfl ?_
      refine r_aload_n dX4_lengthenLike_49 rfl 0 rfl ?_
      obtain ⟨t4, h0, h⟩ := bd h
      refine q_getR h0 dX4_lengthenLike_50 fl4_9 rfl ?_
      refine r_iload dX4_lengthenLike_53 3 rfl ?_
      obtain ⟨t5, h0, h⟩ := bd h
      refine q_iaload h0 dX4_lengthenLike_55 ?_
      refine r_iconst (v := (2 : Int32)) dX4_lengthenLike_56 (by decide) ?_
      refine r_iload_n dX4_lengthenLike_57 rfl 1 rfl ?_
      refine r_imul dX4_lengthenLike_58 ?_
      refine r_ishl dX4_lengthenLike_59 ?_
      refine r_iload_n dX4_lengthenLike_60 rfl 2 rfl ?_
      refine r_ior dX4_lengthenLike_61 ?_
      obtain ⟨S6, h0, h⟩ := bd h
      refine q_iastore h0 dX4_lengthenLike_62 ?_
      refine r_aload_n dX4_lengthenLike_63 rfl 0 rfl ?_
      obtain ⟨t7, h0, h⟩ := bd h
      refine q_getR h0 dX4_lengthenLike_64 fl4_15 rfl ?_
      refine r_iload dX4_lengthenLike_67 3 rfl ?_
      refine r_dup2 dX4_lengthenLike_69 rfl rfl ?_
      obtain ⟨t8, h0, h⟩ := bd h
      refine q_iaload h0 dX4_lengthenLike_70 ?_
      refine r_iload_n dX4_lengthenLike_71 rfl 1 rfl ?_
      refine r_iadd dX4_lengthenLike_72 ?_
      obtain ⟨S9, h0, h⟩ := bd h
      refine q_iastore h0 dX4_lengthenLike_73 ?_
      refine r_iinc (v := v4 + 1) (lv' := [(4, .int (v4 + 1)), (0, .ref v0), (2, .int v2), (3, .int v3)]) dX4_lengthenLike_74 3 rfl rfl (by decide) rfl ?_
      refine r_goto (tgt := 34) dX4_lengthenLike_77 (by decide) ?_
      refine r_sub [1, 2, 3, 0] rfl ?_
      exact ih v0 v2 v3 (v4 + 1) S9 h

def F_X4_lengthenLike (v0 : Nat) (v1 : Nat) (S : Mem) : Option Mem :=
    (pgR 4 4 S v1).bind fun t10 =>
    (paI S t10 (0 : Int32)).bind fun t11 =>
    (pgR 4 4 S v0).bind fun t12 =>
    (paI S t12 (0 : Int32)).bind fun t13 =>
    if 0 < (t11 - t13) then
      (pgR 4 3 S v1).bind fun t15 =>
      (paI S t15 (0 : Int32)).bind fun t16 =>
      bd2 (F_X5_lowBases (t11 - t13) S) fun t17 S18 =>
      F_X4_lengthenLike_L34 FU v0 (t11 - t13) (t16 &&& t17) (0 : Int32) S18
    else
      some S
set_option maxRecDepth 100000 in
theorem T_X4_lengthenLike {g : GG} {l : Launch} (hl : l.stackTraces = false) {v0 : Nat} {v1 : Nat} {S S' : Mem} (h : F_X4_lengthenLike v0 v1 S = some S') : Call g l uX4_lengthenLike [.ref v0, .ref v1] S cvV S' := by
  refine call_of (by decide +kernel) hl rfl (Nat.le_of_ble_eq_true rfl) ?_
  show Run g l uX4_lengthenLike _ 0 [(0, .ref v0), (1, .ref v1)] [] 0 0 S
  unfold F_X4_lengthenLike at h
  refine r_aload_n dX4_lengthenLike_0 rfl 1 rfl ?_
  obtain ⟨t10, h0, h⟩ := bd h
  refine q_getR h0 dX4_lengthenLike_1 fl4_15 rfl ?_
  refine r_iconst (v := (0 : Int32)) dX4_lengthenLike_4 (by decide) ?_
  obtain ⟨t11, h0, h⟩ := bd h
  refine q_iaload h0 dX4_lengthenLike_5 ?_
  refine r_aload_n dX4_lengthenLike_6 rfl 0 rfl ?_
  obtain ⟨t12, h0, h⟩ := bd h
  refine q_getR h0 dX4_lengthenLike_7 fl4_15 rfl ?_
  refine r_iconst (v := (0 : Int32)) dX4_lengthenLike_10 (by decide) ?_
  obtain ⟨t13, h0, h⟩ := bd h
  refine q_iaload h0 dX4_lengthenLike_11 ?_
  refine r_isub dX4_lengthenLike_12 ?_
  refine r_istore_n (lv' := [(2, .int (t11 - t13)), (0, .ref v0), (1, .ref v1)]) dX4_lengthenLike_13 rfl (by decide) rfl ?_
  refine r_iload_n dX4_lengthenLike_14 rfl 0 rfl ?_
  refine r_if_gt (tgt := 19) dX4_lengthenLike_15 (by decide) (fun c14 => ?_) (fun c14 => ?_)
  · rw [if_pos c14] at h
    refine r_aload_n dX4_lengthenLike_19 rfl 2 rfl ?_
    obtain ⟨t15, h0, h⟩ := bd h
    refine q_getR h0 dX4_lengthenLike_20 fl4_9 rfl ?_
    refine r_iconst (v := (0 : Int32)) dX4_lengthenLike_23 (by decide) ?_
    obtain ⟨t16, h0, h⟩ := bd h
    refine q_iaload h0 dX4_lengthenLike_24 ?_
    refine r_iload_n dX4_lengthenLike_25 rfl 0 rfl ?_
    obtain ⟨t17, S18, h0, h⟩ := bd2_s h
    refine r_invN (As := [.int (t11 - t13)]) (st := [.int t16]) dX4_lengthenLike_26 ln4_84 (by unfold RM; decide) (Nat.le_of_ble_eq_true rfl) rfl rfl (T_X5_lowBases hl h0) ?_
    refine r_iand dX4_lengthenLike_29 ?_
    refine r_istore_n (lv' := [(3, .int (t16 &&& t17)), (2, .int (t11 - t13)), (0, .ref v0), (1, .ref v1)]) dX4_lengthenLike_30 rfl (by decide) rfl ?_
    refine r_iconst (v := (0 : Int32)) dX4_lengthenLike_31 (by decide) ?_
    refine r_istore (lv' := [(4, .int ((0 : Int32))), (3, .int (t16 &&& t17)), (2, .int (t11 - t13)), (0, .ref v0), (1, .ref v1)]) dX4_lengthenLike_32 (by decide) rfl ?_
    refine r_sub [3, 2, 1, 0] rfl ?_
    exact T_X4_lengthenLike_L34 hl FU v0 (t11 - t13) (t16 &&& t17) (0 : Int32) S18 h
  · rw [if_neg c14] at h
    cases h
    exact r_return dX4_lengthenLike_18 rfl (by decide) (by decide)

def F_X4_hasTooLongAllele_L2 : Nat → Nat → Int32 → Mem → Option (Int32 × Mem)
  | 0, _, _, _ => none
  | fu + 1, v0, v1, S =>
    (pgI 4 2 S v0).bind fun t1 =>
    if t1 ≤ v1 then
      some ((0 : Int32), S)
    else
      (pgR 4 4 S v0).bind fun t3 =>
      (paI S t3 v1).bind fun t4 =>
      if t4 ≤ (8 : Int32) then
        F_X4_hasTooLongAllele_L2 fu v0 (v1 + 1) S
      else
        some ((1 : Int32), S)
set_option maxRecDepth 100000 in
theorem T_X4_hasTooLongAllele_L2 {g : GG} {l : Launch} (hl : l.stackTraces = false) {S' : Mem} {r : Int32}  : ∀ (fu : Nat) (v0 : Nat) (v1 : Int32) (S : Mem), F_X4_hasTooLongAllele_L2 fu v0 v1 S = some (r, S') → Run g l uX4_hasTooLongAllele (fin g uX4_hasTooLongAllele (cvI r) S') 2 [(0, .ref v0), (1, .int v1)] [] 0 0 S := by
  intro fu
  induction fu with
  | zero =>
    intro v0 v1 S h
    cases (show none = some _ from h)
  | succ fu ih =>
    intro v0 v1 S h
    unfold F_X4_hasTooLongAllele_L2 at h
    refine r_iload_n dX4_hasTooLongAllele_2 rfl 1 rfl ?_
    refine r_aload_n dX4_hasTooLongAllele_3 rfl 0 rfl ?_
    obtain ⟨t1, h0, h⟩ := bd h
    refine q_getI h0 dX4_hasTooLongAllele_4 fl4_38 rfl ?_
    refine r_icmp_ge (tgt := 29) dX4_hasTooLongAllele_7 (by decide) (fun c2 => ?_) (fun c2 => ?_)
    · rw [if_pos c2] at h
      refine r_iconst (v := (0 : Int32)) dX4_hasTooLongAllele_29 (by decide) ?_
      cases h
      exact r_ireturn dX4_hasTooLongAllele_30 rfl (by decide) (by decide) (by decide)
    · rw [if_neg c2] at h
      refine r_aload_n dX4_hasTooLongAllele_10 rfl 0 rfl ?_
      obtain ⟨t3, h0, h⟩ := bd h
      refine q_getR h0 dX4_hasTooLongAllele_11 fl4_15 rfl ?_
      refine r_iload_n dX4_hasTooLongAllele_14 rfl 1 rfl ?_
      obtain ⟨t4, h0, h⟩ := bd h
      refine q_iaload h0 dX4_hasTooLongAllele_15 ?_
      refine r_bipush (v := (8 : Int32)) dX4_hasTooLongAllele_16 (by decide) ?_
      refine r_icmp_le (tgt := 23) dX4_hasTooLongAllele_18 (by decide) (fun c5 => ?_) (fun c5 => ?_)
      · rw [if_pos c5] at h
        refine r_iinc (v := v1 + 1) (lv' := [(1, .int (v1 + 1)), (0, .ref v0)]) dX4_hasTooLongAllele_23 1 rfl rfl (by decide) rfl ?_
        refine r_goto (tgt := 2) dX4_hasTooLongAllele_26 (by decide) ?_
        refine r_sub [1, 0] rfl ?_
        exact ih v0 (v1 + 1) S h
      · rw [if_neg c5] at h
        refine r_iconst (v := (1 : Int32)) dX4_hasTooLongAllele_21 (by decide) ?_
        cases h
        exact r_ireturn dX4_hasTooLongAllele_22 rfl (by decide) (by decide) (by decide)

def F_X4_hasTooLongAllele (v0 : Nat) (S : Mem) : Option (Int32 × Mem) :=
    F_X4_hasTooLongAllele_L2 FU v0 (0 : Int32) S
set_option maxRecDepth 100000 in
theorem T_X4_hasTooLongAllele {g : GG} {l : Launch} (hl : l.stackTraces = false) {v0 : Nat} {S S' : Mem} {r : Int32} (h : F_X4_hasTooLongAllele v0 S = some (r, S')) : Call g l uX4_hasTooLongAllele [.ref v0] S (cvI r) S' := by
  refine call_of (by decide +kernel) hl rfl (Nat.le_of_ble_eq_true rfl) ?_
  show Run g l uX4_hasTooLongAllele _ 0 [(0, .ref v0)] [] 0 0 S
  unfold F_X4_hasTooLongAllele at h
  refine r_iconst (v := (0 : Int32)) dX4_hasTooLongAllele_0 (by decide) ?_
  refine r_istore_n (lv' := [(1, .int ((0 : Int32))), (0, .ref v0)]) dX4_hasTooLongAllele_1 rfl (by decide) rfl ?_
  refine r_sub [1, 0] rfl ?_
  exact T_X4_hasTooLongAllele_L2 hl FU v0 (0 : Int32) S h

def F_X1_uniteAlleles_J77 (K2 : Nat → Int32 → Mem → Option (Int32 × Mem)) (v0 : Nat) (v1 : Int32) (v2 : Int32) (S : Mem) : Option (Int32 × Mem) :=
    (pgR 1 3 S v0).bind fun t1 =>
    (psI S t1 v1 v2).bind fun S2 =>
    K2 v0 (v1 + 1) S2
set_option maxRecDepth 100000 in
theorem T_X1_uniteAlleles_J77 {g : GG} {l : Launch} (hl : l.stackTraces = false) {S' : Mem} {r : Int32}  {K2 : Nat → Int32 → Mem → Option (Int32 × Mem)} (hK2 : ∀ (v0 : Nat) (v1 : Int32) (S : Mem), K2 v0 v1 S = some (r, S') → Run g l uX1_uniteAlleles (fin g uX1_uniteAlleles (cvI r) S') 2 [(0, .ref v0), (1, .int v1)] [] 0 0 S) : ∀ (v0 : Nat) (v1 : Int32) (v2 : Int32) (S : Mem), F_X1_uniteAlleles_J77 K2 v0 v1 v2 S = some (r, S') → Run g l uX1_uniteAlleles (fin g uX1_uniteAlleles (cvI r) S') 77 [(0, .ref v0), (1, .int v1), (2, .int v2)] [] 0 0 S := by
  intro v0 v1 v2 S h
  unfold F_X1_uniteAlleles_J77 at h
  refine r_aload_n dX1_uniteAlleles_77 rfl 0 rfl ?_
  obtain ⟨t1, h0, h⟩ := bd h
  refine q_getR h0 dX1_uniteAlleles_78 fl1_24 rfl ?_
  refine r_iload_n dX1_uniteAlleles_81 rfl 1 rfl ?_
  refine r_iload_n dX1_uniteAlleles_82 rfl 2 rfl ?_
  obtain ⟨S2, h0, h⟩ := bd h
  refine q_iastore h0 dX1_uniteAlleles_83 ?_
  refine r_iinc (v := v1 + 1) (lv' := [(1, .int (v1 + 1)), (0, .ref v0), (2, .int v2)]) dX1_uniteAlleles_84 1 rfl rfl (by decide) rfl ?_
  refine r_goto (tgt := 2) dX1_uniteAlleles_87 (by decide) ?_
  refine r_sub [1, 0] rfl ?_
  exact hK2 v0 (v1 + 1) S2 h

def F_X1_uniteAlleles_L2 : Nat → Nat → Int32 → Mem → Option (Int32 × Mem)
  | 0, _, _, _ => none
  | fu + 1, v0, v1, S =>
    (pgR 1 1 S v0).bind fun t3 =>
    (pgI 4 2 S t3).bind fun t4 =>
    if t4 ≤ v1 then
      some ((1 : Int32), S)
    else
      (pgR 1 2 S v0).bind fun t6 =>
      (pgR 1 1 S v0).bind fun t7 =>
      (pgR 4 3 S t7).bind fun t8 =>
      (paI S t8 v1).bind fun t9 =>
      (pgR 1 1 S v0).bind fun t10 =>
      (pgR 4 4 S t10).bind fun t11 =>
      (paI S t11 v1).bind fun t12 =>
      (pk 4 S t6).bind fun _ =>
      bd2 (F_X4_find t6 t9 t12 S) fun t14 S15 =>
      if t14 = (-1 : Int32) then
        (pgR 1 2 S15 v0).bind fun t17 =>
        (pgI 4 2 S15 t17).bind fun t18 =>
        if t18 = (4 : Int32) then
          some ((0 : Int32), S15)
        else
          (pgR 1 2 S15 v0).bind fun t20 =>
          (pgI 4 2 S15 t20).bind fun t21 =>
          (pgR 1 2 S15 v0).bind fun t22 =>
          (pgR 1 1 S15 v0).bind fun t23 =>
          (pk 4 S15 t22).bind fun _ =>
          (F_X4_appendAlleleOf t22 t23 v1 S15).bind fun S26 =>
          F_X1_uniteAlleles_J77 (F_X1_uniteAlleles_L2 fu) v0 v1 t21 S26
      else
        F_X1_uniteAlleles_J77 (F_X1_uniteAlleles_L2 fu) v0 v1 t14 S15
set_option maxRecDepth 100000 in
theorem T_X1_uniteAlleles_L2 {g : GG} {l : Launch} (hl : l.stackTraces = false) {S' : Mem} {r : Int32}  : ∀ (fu : Nat) (v0 : Nat) (v1 : Int32) (S : Mem), F_X1_uniteAlleles_L2 fu v0 v1 S = some (r, S') → Run g l uX1_uniteAlleles (fin g uX1_uniteAlleles (cvI r) S') 2 [(0, .ref v0), (1, .int v1)] [] 0 0 S := by
  intro fu
  induction fu with
  | zero =>
    intro v0 v1 S h
    cases (show none = some _ from h)
  | succ fu ih =>
    intro v0 v1 S h
    unfold F_X1_uniteAlleles_L2 at h
    refine r_iload_n dX1_uniteAlleles_2 rfl 1 rfl ?_
    refine r_aload_n dX1_uniteAlleles_3 rfl 0 rfl ?_
    obtain ⟨t3, h0, h⟩ := bd h
    refine q_getR h0 dX1_uniteAlleles_4 fl1_18 rfl ?_
    obtain ⟨t4, h0, h⟩ := bd h
    refine q_getI h0 dX1_uniteAlleles_7 fl1_61 rfl ?_
    refine r_icmp_ge (tgt := 90) dX1_uniteAlleles_10 (by decide) (fun c5 => ?_) (fun c5 => ?_)
    · rw [if_pos c5] at h
      refine r_iconst (v := (1 : Int32)) dX1_uniteAlleles_90 (by decide) ?_
      cases h
      exact r_ireturn dX1_uniteAlleles_91 rfl (by decide) (by decide) (by decide)
    · rw [if_neg c5] at h
      refine r_aload_n dX1_uniteAlleles_13 rfl 0 rfl ?_
      obtain ⟨t6, h0, h⟩ := bd h
      refine q_getR h0 dX1_uniteAlleles_14 fl1_21 rfl ?_
      refine r_aload_n dX1_uniteAlleles_17 rfl 0 rfl ?_
      obtain ⟨t7, h0, h⟩ := bd h
      refine q_getR h0 dX1_uniteAlleles_18 fl1_18 rfl ?_
      obtain ⟨t8, h0, h⟩ := bd h
      refine q_getR h0 dX1_uniteAlleles_21 fl1_64 rfl ?_
      refine r_iload_n dX1_uniteAlleles_24 rfl 1 rfl ?_
      obtain ⟨t9, h0, h⟩ := bd h
      refine q_iaload h0 dX1_uniteAlleles_25 ?_
      refine r_aload_n dX1_uniteAlleles_26 rfl 0 rfl ?_
      obtain ⟨t10, h0, h⟩ := bd h
      refine q_getR h0 dX1_uniteAlleles_27 fl1_18 rfl ?_
      obtain ⟨t11, h0, h⟩ := bd h
      refine q_getR h0 dX1_uniteAlleles_30 fl1_67 rfl ?_
      refine r_iload_n dX1_uniteAlleles_33 rfl 1 rfl ?_
      obtain ⟨t12, h0, h⟩ := bd h
      refine q_iaload h0 dX1_uniteAlleles_34 ?_
      obtain ⟨z13, hk, h⟩ := bd h
      obtain ⟨t14, S15, h0, h⟩ := bd2_s h
      refine r_invV (As := [.int t9, .int t12]) (st := []) dX1_uniteAlleles_35 lv1_70 (by unfold RM; decide) (Nat.le_of_ble_eq_true rfl) rfl rfl (pk_ok hk) (T_X4_find hl h0) ?_
      refine r_istore_n (lv' := [(2, .int t14), (0, .ref v0), (1, .int v1)]) dX1_uniteAlleles_38 rfl (by decide) rfl ?_
      refine r_iload_n dX1_uniteAlleles_39 rfl 0 rfl ?_
      refine r_iconst (v := (-1 : Int32)) dX1_uniteAlleles_40 (by decide) ?_
      refine r_icmp_ne (tgt := 77) dX1_uniteAlleles_41 (by decide) (fun c16 => ?_) (fun c16 => ?_)
      · rw [if_neg c16] at h
        refine r_sub [1, 2, 0] rfl ?_
        exact T_X1_uniteAlleles_J77 hl (fun v0 v1 S h => ih v0 v1 S h) v0 v1 t14 S15 h
      · rw [if_pos c16] at h
        refine r_aload_n dX1_uniteAlleles_44 rfl 1 rfl ?_
        obtain ⟨t17, h0, h⟩ := bd h
        refine q_getR h0 dX1_uniteAlleles_45 fl1_21 rfl ?_
        obtain ⟨t18, h0, h⟩ := bd h
        refine q_getI h0 dX1_uniteAlleles_48 fl1_61 rfl ?_
        refine r_iconst (v := (4 : Int32)) dX1_uniteAlleles_51 (by decide) ?_
        refine r_icmp_ne (tgt := 57) dX1_uniteAlleles_52 (by decide) (fun c19 => ?_) (fun c19 => ?_)
        · rw [if_neg c19] at h
          refine r_aload_n dX1_uniteAlleles_57 rfl 1 rfl ?_
          obtain ⟨t20, h0, h⟩ := bd h
          refine q_getR h0 dX1_uniteAlleles_58 fl1_21 rfl ?_
          obtain ⟨t21, h0, h⟩ := bd h
          refine q_getI h0 dX1_uniteAlleles_61 fl1_61 rfl ?_
          refine r_istore_n (lv' := [(2, .int t21), (0, .ref v0), (1, .int v1)]) dX1_uniteAlleles_64 rfl (by decide) rfl ?_
          refine r_aload_n dX1_uniteAlleles_65 rfl 1 rfl ?_
          obtain ⟨t22, h0, h⟩ := bd h
          refine q_getR h0 dX1_uniteAlleles_66 fl1_21 rfl ?_
          refine r_aload_n dX1_uniteAlleles_69 rfl 1 rfl ?_
          obtain ⟨t23, h0, h⟩ := bd h
          refine q_getR h0 dX1_uniteAlleles_70 fl1_18 rfl ?_
          refine r_iload_n dX1_uniteAlleles_73 rfl 2 rfl ?_
          obtain ⟨z24, hk, h⟩ := bd h
          obtain ⟨S26, h0, h⟩ := bd h
          refine r_invV (As := [.ref t23, .int v1]) (st := []) dX1_uniteAlleles_74 lv1_73 (by unfold RM; decide) (Nat.le_of_ble_eq_true rfl) rfl rfl (pk_ok hk) (T_X4_appendAlleleOf hl h0) ?_
          refine r_sub [1, 2, 0] rfl ?_
          exact T_X1_uniteAlleles_J77 hl (fun v0 v1 S h => ih v0 v1 S h) v0 v1 t21 S26 h
        · rw [if_pos c19] at h
          refine r_iconst (v := (0 : Int32)) dX1_uniteAlleles_55 (by decide) ?_
          cases h
          exact r_ireturn dX1_uniteAlleles_56 rfl (by decide) (by decide) (by decide)

def F_X1_uniteAlleles (v0 : Nat) (S : Mem) : Option (Int32 × Mem) :=
    F_X1_uniteAlleles_L2 FU v0 (0 : Int32) S
set_option maxRecDepth 100000 in
theorem T_X1_uniteAlleles {g : GG} {l : Launch} (hl : l.stackTraces = false) {v0 : Nat} {S S' : Mem} {r : Int32} (h : F_X1_uniteAlleles v0 S = some (r, S')) : Call g l uX1_uniteAlleles [.ref v0] S (cvI r) S' := by
  refine call_of (by decide +kernel) hl rfl (Nat.le_of_ble_eq_true rfl) ?_
  show Run g l uX1_uniteAlleles _ 0 [(0, .ref v0)] [] 0 0 S
  unfold F_X1_uniteAlleles at h
  refine r_iconst (v := (0 : Int32)) dX1_uniteAlleles_0 (by decide) ?_
  refine r_istore_n (lv' := [(1, .int ((0 : Int32))), (0, .ref v0)]) dX1_uniteAlleles_1 rfl (by decide) rfl ?_
  refine r_sub [1, 0] rfl ?_
  exact T_X1_uniteAlleles_L2 hl FU v0 (0 : Int32) S h

def F_X1_uniteDepths_J97 (K32 : Nat → Int32 → Mem → Option Mem) (v0 : Nat) (v1 : Int32) (S : Mem) : Option Mem :=
    K32 v0 (v1 + 1) S
set_option maxRecDepth 100000 in
theorem T_X1_uniteDepths_J97 {g : GG} {l : Launch} (hl : l.stackTraces = false) {S' : Mem}  {K32 : Nat → Int32 → Mem → Option Mem} (hK32 : ∀ (v0 : Nat) (v1 : Int32) (S : Mem), K32 v0 v1 S = some S' → Run g l uX1_uniteDepths (fin g uX1_uniteDepths cvV S') 32 [(0, .ref v0), (1, .int v1)] [] 0 0 S) : ∀ (v0 : Nat) (v1 : Int32) (S : Mem), F_X1_uniteDepths_J97 K32 v0 v1 S = some S' → Run g l uX1_uniteDepths (fin g uX1_uniteDepths cvV S') 97 [(0, .ref v0), (1, .int v1)] [] 0 0 S := by
  intro v0 v1 S h
  unfold F_X1_uniteDepths_J97 at h
  refine r_iinc (v := v1 + 1) (lv' := [(1, .int (v1 + 1)), (0, .ref v0)]) dX1_uniteDepths_97 1 rfl rfl (by decide) rfl ?_
  refine r_goto (tgt := 32) dX1_uniteDepths_100 (by decide) ?_
  refine r_sub [1, 0] rfl ?_
  exact hK32 v0 (v1 + 1) S h

def F_X1_uniteDepths_L32 : Nat → Nat → Int32 → Mem → Option Mem
  | 0, _, _, _ => none
  | fu + 1, v0, v1, S =>
    (pgR 1 1 S v0).bind fun t1 =>
    (pgI 4 2 S t1).bind fun t2 =>
    if t2 ≤ v1 then
      some S
    else
      (pgR 1 3 S v0).bind fun t4 =>
      (paI S t4 v1).bind fun t5 =>
      (pgR 1 0 S v0).bind fun t6 =>
      (pgI 4 2 S t6).bind fun t7 =>
      if t7 ≤ t5 then
        F_X1_uniteDepths_J97 (F_X1_uniteDepths_L32 fu) v0 v1 S
      else
        (pgR 1 0 S v0).bind fun t9 =>
        (pgR 4 5 S t9).bind fun t10 =>
        (paI S t10 t5).bind fun t11 =>
        (pgR 1 1 S v0).bind fun t12 =>
        (pgR 4 5 S t12).bind fun t13 =>
        (paI S t13 v1).bind fun t14 =>
        (pgR 1 2 S v0).bind fun t15 =>
        (pgR 4 5 S t15).bind fun t16 =>
        (psI S t16 t5 (if (9999 : Int32) < (t11 + t14) then (9999 : Int32) else (t11 + t14))).bind fun S17 =>
        F_X1_uniteDepths_J97 (F_X1_uniteDepths_L32 fu) v0 v1 S17
set_option maxRecDepth 100000 in
theorem T_X1_uniteDepths_L32 {g : GG} {l : Launch} (hl : l.stackTraces = false) {S' : Mem}  : ∀ (fu : Nat) (v0 : Nat) (v1 : Int32) (S : Mem), F_X1_uniteDepths_L32 fu v0 v1 S = some S' → Run g l uX1_uniteDepths (fin g uX1_uniteDepths cvV S') 32 [(0, .ref v0), (1, .int v1)] [] 0 0 S := by
  intro fu
  induction fu with
  | zero =>
    intro v0 v1 S h
    cases (show none = some _ from h)
  | succ fu ih =>
    intro v0 v1 S h
    unfold F_X1_uniteDepths_L32 at h
    refine r_iload_n dX1_uniteDepths_32 rfl 1 rfl ?_
    refine r_aload_n dX1_uniteDepths_33 rfl 0 rfl ?_
    obtain ⟨t1, h0, h⟩ := bd h
    refine q_getR h0 dX1_uniteDepths_34 fl1_18 rfl ?_
    obtain ⟨t2, h0, h⟩ := bd h
    refine q_getI h0 dX1_uniteDepths_37 fl1_61 rfl ?_
    refine r_icmp_ge (tgt := 103) dX1_uniteDepths_40 (by decide) (fun c3 => ?_) (fun c3 => ?_)
    · rw [if_pos c3] at h
      cases h
      exact r_return dX1_uniteDepths_103 rfl (by decide) (by decide)
    · rw [if_neg c3] at h
      refine r_aload_n dX1_uniteDepths_43 rfl 0 rfl ?_
      obtain ⟨t4, h0, h⟩ := bd h
      refine q_getR h0 dX1_uniteDepths_44 fl1_24 rfl ?_
      refine r_iload_n dX1_uniteDepths_47 rfl 1 rfl ?_
      obtain ⟨t5, h0, h⟩ := bd h
      refine q_iaload h0 dX1_uniteDepths_48 ?_
      refine r_istore_n (lv' := [(2, .int t5), (0, .ref v0), (1, .int v1)]) dX1_uniteDepths_49 rfl (by decide) rfl ?_
      refine r_iload_n dX1_uniteDepths_50 rfl 0 rfl ?_
      refine r_aload_n dX1_uniteDepths_51 rfl 1 rfl ?_
      obtain ⟨t6, h0, h⟩ := bd h
      refine q_getR h0 dX1_uniteDepths_52 fl1_12 rfl ?_
      obtain ⟨t7, h0, h⟩ := bd h
      refine q_getI h0 dX1_uniteDepths_55 fl1_61 rfl ?_
      refine r_icmp_ge (tgt := 97) dX1_uniteDepths_58 (by decide) (fun c8 => ?_) (fun c8 => ?_)
      · rw [if_pos c8] at h
        refine r_sub [1, 2] rfl ?_
        exact T_X1_uniteDepths_J97 hl (fun v0 v1 S h => ih v0 v1 S h) v0 v1 S h
      · rw [if_neg c8] at h
        refine r_aload_n dX1_uniteDepths_61 rfl 1 rfl ?_
        obtain ⟨t9, h0, h⟩ := bd h
        refine q_getR h0 dX1_uniteDepths_62 fl1_12 rfl ?_
        obtain ⟨t10, h0, h⟩ := bd h
        refine q_getR h0 dX1_uniteDepths_65 fl1_77 rfl ?_
        refine r_iload_n dX1_uniteDepths_68 rfl 0 rfl ?_
        obtain ⟨t11, h0, h⟩ := bd h
        refine q_iaload h0 dX1_uniteDepths_69 ?_
        refine r_aload_n dX1_uniteDepths_70 rfl 1 rfl ?_
        obtain ⟨t12, h0, h⟩ := bd h
        refine q_getR h0 dX1_uniteDepths_71 fl1_18 rfl ?_
        obtain ⟨t13, h0, h⟩ := bd h
        refine q_getR h0 dX1_uniteDepths_74 fl1_77 rfl ?_
        refine r_iload_n dX1_uniteDepths_77 rfl 2 rfl ?_
        obtain ⟨t14, h0, h⟩ := bd h
        refine q_iaload h0 dX1_uniteDepths_78 ?_
        refine r_iadd dX1_uniteDepths_79 ?_
        refine r_istore_n (lv' := [(3, .int (t11 + t14)), (2, .int t5), (0, .ref v0), (1, .int v1)]) dX1_uniteDepths_80 rfl (by decide) rfl ?_
        refine r_aload_n dX1_uniteDepths_81 rfl 2 rfl ?_
        obtain ⟨t15, h0, h⟩ := bd h
        refine q_getR h0 dX1_uniteDepths_82 fl1_21 rfl ?_
        obtain ⟨t16, h0, h⟩ := bd h
        refine q_getR h0 dX1_uniteDepths_85 fl1_77 rfl ?_
        refine r_iload_n dX1_uniteDepths_88 rfl 1 rfl ?_
        refine r_iload_n dX1_uniteDepths_89 rfl 0 rfl ?_
        refine r_sipush (v := (9999 : Int32)) dX1_uniteDepths_90 (by decide) ?_
        refine r_min dX1_uniteDepths_93 wm1_80 w_min (by decide) (Nat.le_of_ble_eq_true rfl) (by decide) (by decide) ?_
        obtain ⟨S17, h0, h⟩ := bd h
        refine q_iastore h0 dX1_uniteDepths_96 ?_
        refine r_sub [2, 3] rfl ?_
        exact T_X1_uniteDepths_J97 hl (fun v0 v1 S h => ih v0 v1 S h) v0 v1 S17 h

def F_X1_uniteDepths (v0 : Nat) (S : Mem) : Option Mem :=
    (pgR 1 2 S v0).bind fun t18 =>
    (pgR 4 5 S t18).bind fun t19 =>
    (pgR 1 0 S v0).bind fun t20 =>
    (pgR 4 5 S t20).bind fun t21 =>
    (paI S t21 (0 : Int32)).bind fun t22 =>
    (pgR 1 1 S v0).bind fun t23 =>
    (pgR 4 5 S t23).bind fun t24 =>
    (paI S t24 (0 : Int32)).bind fun t25 =>
    (psI S t19 (0 : Int32) (if t22 < t25 then t25 else t22)).bind fun S26 =>
    F_X1_uniteDepths_L32 FU v0 (1 : Int32) S26
set_option maxRecDepth 100000 in
theorem T_X1_uniteDepths {g : GG} {l : Launch} (hl : l.stackTraces = false) {v0 : Nat} {S S' : Mem} (h : F_X1_uniteDepths v0 S = some S') : Call g l uX1_uniteDepths [.ref v0] S cvV S' := by
  refine call_of (by decide +kernel) hl rfl (Nat.le_of_ble_eq_true rfl) ?_
  show Run g l uX1_uniteDepths _ 0 [(0, .ref v0)] [] 0 0 S
  unfold F_X1_uniteDepths at h
  refine r_aload_n dX1_uniteDepths_0 rfl 0 rfl ?_
  obtain ⟨t18, h0, h⟩ := bd h
  refine q_getR h0 dX1_uniteDepths_1 fl1_21 rfl ?_
  obtain ⟨t19, h0, h⟩ := bd h
  refine q_getR h0 dX1_uniteDepths_4 fl1_77 rfl ?_
  refine r_iconst (v := (0 : Int32)) dX1_uniteDepths_7 (by decide) ?_
  refine r_aload_n dX1_uniteDepths_8 rfl 0 rfl ?_
  obtain ⟨t20, h0, h⟩ := bd h
  refine q_getR h0 dX1_uniteDepths_9 fl1_12 rfl ?_
  obtain ⟨t21, h0, h⟩ := bd h
  refine q_getR h0 dX1_uniteDepths_12 fl1_77 rfl ?_
  refine r_iconst (v := (0 : Int32)) dX1_uniteDepths_15 (by decide) ?_
  obtain ⟨t22, h0, h⟩ := bd h
  refine q_iaload h0 dX1_uniteDepths_16 ?_
  refine r_aload_n dX1_uniteDepths_17 rfl 0 rfl ?_
  obtain ⟨t23, h0, h⟩ := bd h
  refine q_getR h0 dX1_uniteDepths_18 fl1_18 rfl ?_
  obtain ⟨t24, h0, h⟩ := bd h
  refine q_getR h0 dX1_uniteDepths_21 fl1_77 rfl ?_
  refine r_iconst (v := (0 : Int32)) dX1_uniteDepths_24 (by decide) ?_
  obtain ⟨t25, h0, h⟩ := bd h
  refine q_iaload h0 dX1_uniteDepths_25 ?_
  refine r_max dX1_uniteDepths_26 wm1_46 w_max (by decide) (Nat.le_of_ble_eq_true rfl) (by decide) (by decide) ?_
  obtain ⟨S26, h0, h⟩ := bd h
  refine q_iastore h0 dX1_uniteDepths_29 ?_
  refine r_iconst (v := (1 : Int32)) dX1_uniteDepths_30 (by decide) ?_
  refine r_istore_n (lv' := [(1, .int ((1 : Int32))), (0, .ref v0)]) dX1_uniteDepths_31 rfl (by decide) rfl ?_
  refine r_sub [1, 0] rfl ?_
  exact T_X1_uniteDepths_L32 hl FU v0 (1 : Int32) S26 h

def F_X1_unitedAllele (v0 : Nat) (v1 : Int32) (v2 : Int32) (S : Mem) : Option (Int32 × Mem) :=
    if 0 < v1 then
      some (v1, S)
    else
      if v2 = (-1 : Int32) then
        some (v1, S)
      else
        (pgR 1 3 S v0).bind fun t3 =>
        (paI S t3 v2).bind fun t4 =>
        some (t4, S)
set_option maxRecDepth 100000 in
theorem T_X1_unitedAllele {g : GG} {l : Launch} (hl : l.stackTraces = false) {v0 : Nat} {v1 : Int32} {v2 : Int32} {S S' : Mem} {r : Int32} (h : F_X1_unitedAllele v0 v1 v2 S = some (r, S')) : Call g l uX1_unitedAllele [.ref v0, .int v1, .int v2] S (cvI r) S' := by
  refine call_of (by decide +kernel) hl rfl (Nat.le_of_ble_eq_true rfl) ?_
  show Run g l uX1_unitedAllele _ 0 [(0, .ref v0), (1, .int v1), (2, .int v2)] [] 0 0 S
  unfold F_X1_unitedAllele at h
  refine r_iload_n dX1_unitedAllele_0 rfl 1 rfl ?_
  refine r_if_gt (tgt := 9) dX1_unitedAllele_1 (by decide) (fun c1 => ?_) (fun c1 => ?_)
  · rw [if_pos c1] at h
    refine r_iload_n dX1_unitedAllele_9 rfl 1 rfl ?_
    cases h
    exact r_ireturn dX1_unitedAllele_10 rfl rfl (by decide) (by decide)
  · rw [if_neg c1] at h
    refine r_iload_n dX1_unitedAllele_4 rfl 2 rfl ?_
    refine r_iconst (v := (-1 : Int32)) dX1_unitedAllele_5 (by decide) ?_
    refine r_icmp_ne (tgt := 11) dX1_unitedAllele_6 (by decide) (fun c2 => ?_) (fun c2 => ?_)
    · rw [if_neg c2] at h
      refine r_aload_n dX1_unitedAllele_11 rfl 0 rfl ?_
      obtain ⟨t3, h0, h⟩ := bd h
      refine q_getR h0 dX1_unitedAllele_12 fl1_24 rfl ?_
      refine r_iload_n dX1_unitedAllele_15 rfl 2 rfl ?_
      obtain ⟨t4, h0, h⟩ := bd h
      refine q_iaload h0 dX1_unitedAllele_16 ?_
      cases h
      exact r_ireturn dX1_unitedAllele_17 rfl rfl (by decide) (by decide)
    · rw [if_pos c2] at h
      refine r_iload_n dX1_unitedAllele_9 rfl 1 rfl ?_
      cases h
      exact r_ireturn dX1_unitedAllele_10 rfl rfl (by decide) (by decide)

def F_X1_uniteGenotypes_J88 (K46 : Nat → Int32 → Mem → Option Mem) (v0 : Nat) (v1 : Int32) (s0 : Nat) (s1 : Int32) (s2 : Int32) (S : Mem) : Option Mem :=
    (psZ S s0 s1 s2).bind fun S1 =>
    K46 v0 (v1 + 1) S1
set_option maxRecDepth 100000 in
theorem T_X1_uniteGenotypes_J88 {g : GG} {l : Launch} (hl : l.stackTraces = false) {S' : Mem}  {K46 : Nat → Int32 → Mem → Option Mem} (hK46 : ∀ (v0 : Nat) (v1 : Int32) (S : Mem), K46 v0 v1 S = some S' → Run g l uX1_uniteGenotypes (fin g uX1_uniteGenotypes cvV S') 46 [(0, .ref v0), (1, .int v1)] [] 0 0 S) : ∀ (v0 : Nat) (v1 : Int32) (s0 : Nat) (s1 : Int32) (s2 : Int32) (S : Mem), F_X1_uniteGenotypes_J88 K46 v0 v1 s0 s1 s2 S = some S' → Run g l uX1_uniteGenotypes (fin g uX1_uniteGenotypes cvV S') 88 [(0, .ref v0), (1, .int v1)] [.int s2, .int s1, .ref s0] 0 0 S := by
  intro v0 v1 s0 s1 s2 S h
  unfold F_X1_uniteGenotypes_J88 at h
  obtain ⟨S1, h0, h⟩ := bd h
  refine q_bastore h0 dX1_uniteGenotypes_88 ?_
  refine r_iinc (v := v1 + 1) (lv' := [(1, .int (v1 + 1)), (0, .ref v0)]) dX1_uniteGenotypes_89 1 rfl rfl (by decide) rfl ?_
  refine r_goto (tgt := 46) dX1_uniteGenotypes_92 (by decide) ?_
  refine r_sub [1, 0] rfl ?_
  exact hK46 v0 (v1 + 1) S1 h

def F_X1_uniteGenotypes_J87 (K46 : Nat → Int32 → Mem → Option Mem) (v0 : Nat) (v1 : Int32) (s0 : Nat) (s1 : Int32) (S : Mem) : Option Mem :=
    F_X1_uniteGenotypes_J88 K46 v0 v1 s0 s1 (0 : Int32) S
set_option maxRecDepth 100000 in
theorem T_X1_uniteGenotypes_J87 {g : GG} {l : Launch} (hl : l.stackTraces = false) {S' : Mem}  {K46 : Nat → Int32 → Mem → Option Mem} (hK46 : ∀ (v0 : Nat) (v1 : Int32) (S : Mem), K46 v0 v1 S = some S' → Run g l uX1_uniteGenotypes (fin g uX1_uniteGenotypes cvV S') 46 [(0, .ref v0), (1, .int v1)] [] 0 0 S) : ∀ (v0 : Nat) (v1 : Int32) (s0 : Nat) (s1 : Int32) (S : Mem), F_X1_uniteGenotypes_J87 K46 v0 v1 s0 s1 S = some S' → Run g l uX1_uniteGenotypes (fin g uX1_uniteGenotypes cvV S') 87 [(0, .ref v0), (1, .int v1)] [.int s1, .ref s0] 0 0 S := by
  intro v0 v1 s0 s1 S h
  unfold F_X1_uniteGenotypes_J87 at h
  refine r_iconst (v := (0 : Int32)) dX1_uniteGenotypes_87 (by decide) ?_
  exact T_X1_uniteGenotypes_J88 hl hK46 v0 v1 s0 s1 (0 : Int32) S h

def F_X1_uniteGenotypes_L46 : Nat → Nat → Int32 → Mem → Option Mem
  | 0, _, _, _ => none
  | fu + 1, v0, v1, S =>
    if (2 : Int32) ≤ v1 then
      some S
    else
      (pgR 1 2 S v0).bind fun t3 =>
      (pgR 4 7 S t3).bind fun t4 =>
      (pgR 1 0 S v0).bind fun t5 =>
      (pgR 4 7 S t5).bind fun t6 =>
      (paZ S t6 v1).bind fun t7 =>
      if t7 = 0 then
        F_X1_uniteGenotypes_J87 (F_X1_uniteGenotypes_L46 fu) v0 v1 t4 v1 S
      else
        (pgR 1 1 S v0).bind fun t9 =>
        (pgR 4 7 S t9).bind fun t10 =>
        (paZ S t10 v1).bind fun t11 =>
        if t11 = 0 then
          F_X1_uniteGenotypes_J87 (F_X1_uniteGenotypes_L46 fu) v0 v1 t4 v1 S
        else
          F_X1_uniteGenotypes_J88 (F_X1_uniteGenotypes_L46 fu) v0 v1 t4 v1 (1 : Int32) S
set_option maxRecDepth 100000 in
theorem T_X1_uniteGenotypes_L46 {g : GG} {l : Launch} (hl : l.stackTraces = false) {S' : Mem}  : ∀ (fu : Nat) (v0 : Nat) (v1 : Int32) (S : Mem), F_X1_uniteGenotypes_L46 fu v0 v1 S = some S' → Run g l uX1_uniteGenotypes (fin g uX1_uniteGenotypes cvV S') 46 [(0, .ref v0), (1, .int v1)] [] 0 0 S := by
  intro fu
  induction fu with
  | zero =>
    intro v0 v1 S h
    cases (show none = some _ from h)
  | succ fu ih =>
    intro v0 v1 S h
    unfold F_X1_uniteGenotypes_L46 at h
    refine r_iload_n dX1_uniteGenotypes_46 rfl 1 rfl ?_
    refine r_iconst (v := (2 : Int32)) dX1_uniteGenotypes_47 (by decide) ?_
    refine r_icmp_ge (tgt := 95) dX1_uniteGenotypes_48 (by decide) (fun c2 => ?_) (fun c2 => ?_)
    · rw [if_pos c2] at h
      cases h
      exact r_return dX1_uniteGenotypes_95 rfl (by decide) (by decide)
    · rw [if_neg c2] at h
      refine r_aload_n dX1_uniteGenotypes_51 rfl 0 rfl ?_
      obtain ⟨t3, h0, h⟩ := bd h
      refine q_getR h0 dX1_uniteGenotypes_52 fl1_21 rfl ?_
      obtain ⟨t4, h0, h⟩ := bd h
      refine q_getR h0 dX1_uniteGenotypes_55 fl1_89 rfl ?_
      refine r_iload_n dX1_uniteGenotypes_58 rfl 1 rfl ?_
      refine r_aload_n dX1_uniteGenotypes_59 rfl 0 rfl ?_
      obtain ⟨t5, h0, h⟩ := bd h
      refine q_getR h0 dX1_uniteGenotypes_60 fl1_12 rfl ?_
      obtain ⟨t6, h0, h⟩ := bd h
      refine q_getR h0 dX1_uniteGenotypes_63 fl1_89 rfl ?_
      refine r_iload_n dX1_uniteGenotypes_66 rfl 1 rfl ?_
      obtain ⟨t7, h0, h⟩ := bd h
      refine q_baload h0 dX1_uniteGenotypes_67 ?_
      refine r_if_eq (tgt := 87) dX1_uniteGenotypes_68 (by decide) (fun c8 => ?_) (fun c8 => ?_)
      · rw [if_pos c8] at h
        exact T_X1_uniteGenotypes_J87 hl (fun v0 v1 S h => ih v0 v1 S h) v0 v1 t4 v1 S h
      · rw [if_neg c8] at h
        refine r_aload_n dX1_uniteGenotypes_71 rfl 0 rfl ?_
        obtain ⟨t9, h0, h⟩ := bd h
        refine q_getR h0 dX1_uniteGenotypes_72 fl1_18 rfl ?_
        obtain ⟨t10, h0, h⟩ := bd h
        refine q_getR h0 dX1_uniteGenotypes_75 fl1_89 rfl ?_
        refine r_iload_n dX1_uniteGenotypes_78 rfl 1 rfl ?_
        obtain ⟨t11, h0, h⟩ := bd h
        refine q_baload h0 dX1_uniteGenotypes_79 ?_
        refine r_if_eq (tgt := 87) dX1_uniteGenotypes_80 (by decide) (fun c12 => ?_) (fun c12 => ?_)
        · rw [if_pos c12] at h
          exact T_X1_uniteGenotypes_J87 hl (fun v0 v1 S h => ih v0 v1 S h) v0 v1 t4 v1 S h
        · rw [if_neg c12] at h
          refine r_iconst (v := (1 : Int32)) dX1_uniteGenotypes_83 (by decide) ?_
          refine r_goto (tgt := 88) dX1_uniteGenotypes_84 (by decide) ?_
          exact T_X1_uniteGenotypes_J88 hl (fun v0 v1 S h => ih v0 v1 S h) v0 v1 t4 v1 (1 : Int32) S h

def F_X1_uniteGenotypes_L2 : Nat → Nat → Int32 → Mem → Option Mem
  | 0, _, _, _ => none
  | fu + 1, v0, v1, S =>
    if (4 : Int32) ≤ v1 then
      F_X1_uniteGenotypes_L46 FU v0 (0 : Int32) S
    else
      (pgR 1 2 S v0).bind fun t14 =>
      (pgR 4 6 S t14).bind fun t15 =>
      (pgR 1 0 S v0).bind fun t16 =>
      (pgR 4 6 S t16).bind fun t17 =>
      (paI S t17 v1).bind fun t18 =>
      (pgR 1 1 S v0).bind fun t19 =>
      (pgR 4 6 S t19).bind fun t20 =>
      (paI S t20 v1).bind fun t21 =>
      (pk 1 S v0).bind fun _ =>
      bd2 (F_X1_unitedAllele v0 t18 t21 S) fun t23 S24 =>
      (psI S24 t15 v1 t23).bind fun S25 =>
      F_X1_uniteGenotypes_L2 fu v0 (v1 + 1) S25
set_option maxRecDepth 100000 in
theorem T_X1_uniteGenotypes_L2 {g : GG} {l : Launch} (hl : l.stackTraces = false) {S' : Mem}  : ∀ (fu : Nat) (v0 : Nat) (v1 : Int32) (S : Mem), F_X1_uniteGenotypes_L2 fu v0 v1 S = some S' → Run g l uX1_uniteGenotypes (fin g uX1_uniteGenotypes cvV S') 2 [(0, .ref v0), (1, .int v1)] [] 0 0 S := by
  intro fu
  induction fu with
  | zero =>
    intro v0 v1 S h
    cases (show none = some _ from h)
  | succ fu ih =>
    intro v0 v1 S h
    unfold F_X1_uniteGenotypes_L2 at h
    refine r_iload_n dX1_uniteGenotypes_2 rfl 1 rfl ?_
    refine r_iconst (v := (4 : Int32)) dX1_uniteGenotypes_3 (by decide) ?_
    refine r_icmp_ge (tgt := 44) dX1_uniteGenotypes_4 (by decide) (fun c13 => ?_) (fun c13 => ?_)
    · rw [if_pos c13] at h
      refine r_iconst (v := (0 : Int32)) dX1_uniteGenotypes_44 (by decide) ?_
      refine r_istore_n (lv' := [(1, .int ((0 : Int32))), (0, .ref v0)]) dX1_uniteGenotypes_45 rfl (by decide) rfl ?_
      refine r_sub [1, 0] rfl ?_
      exact T_X1_uniteGenotypes_L46 hl FU v0 (0 : Int32) S h
    · rw [if_neg c13] at h
      refine r_aload_n dX1_uniteGenotypes_7 rfl 0 rfl ?_
      obtain ⟨t14, h0, h⟩ := bd h
      refine q_getR h0 dX1_uniteGenotypes_8 fl1_21 rfl ?_
      obtain ⟨t15, h0, h⟩ := bd h
      refine q_getR h0 dX1_uniteGenotypes_11 fl1_83 rfl ?_
      refine r_iload_n dX1_uniteGenotypes_14 rfl 1 rfl ?_
      refine r_aload_n dX1_uniteGenotypes_15 rfl 0 rfl ?_
      refine r_aload_n dX1_uniteGenotypes_16 rfl 0 rfl ?_
      obtain ⟨t16, h0, h⟩ := bd h
      refine q_getR h0 dX1_uniteGenotypes_17 fl1_12 rfl ?_
      obtain ⟨t17, h0, h⟩ := bd h
      refine q_getR h0 dX1_uniteGenotypes_20 fl1_83 rfl ?_
      refine r_iload_n dX1_uniteGenotypes_23 rfl 1 rfl ?_
      obtain ⟨t18, h0, h⟩ := bd h
      refine q_iaload h0 dX1_uniteGenotypes_24 ?_
      refine r_aload_n dX1_uniteGenotypes_25 rfl 0 rfl ?_
      obtain ⟨t19, h0, h⟩ := bd h
      refine q_getR h0 dX1_uniteGenotypes_26 fl1_18 rfl ?_
      obtain ⟨t20, h0, h⟩ := bd h
      refine q_getR h0 dX1_uniteGenotypes_29 fl1_83 rfl ?_
      refine r_iload_n dX1_uniteGenotypes_32 rfl 1 rfl ?_
      obtain ⟨t21, h0, h⟩ := bd h
      refine q_iaload h0 dX1_uniteGenotypes_33 ?_
      obtain ⟨z22, hk, h⟩ := bd h
      obtain ⟨t23, S24, h0, h⟩ := bd2_s h
      refine r_invV (As := [.int t18, .int t21]) (st := [.int v1, .ref t15]) dX1_uniteGenotypes_34 lv1_86 (by unfold RM; decide) (Nat.le_of_ble_eq_true rfl) rfl rfl (pk_ok hk) (T_X1_unitedAllele hl h0) ?_
      obtain ⟨S25, h0, h⟩ := bd h
      refine q_iastore h0 dX1_uniteGenotypes_37 ?_
      refine r_iinc (v := v1 + 1) (lv' := [(1, .int (v1 + 1)), (0, .ref v0)]) dX1_uniteGenotypes_38 1 rfl rfl (by decide) rfl ?_
      refine r_goto (tgt := 2) dX1_uniteGenotypes_41 (by decide) ?_
      refine r_sub [1, 0] rfl ?_
      exact ih v0 (v1 + 1) S25 h

def F_X1_uniteGenotypes (v0 : Nat) (S : Mem) : Option Mem :=
    F_X1_uniteGenotypes_L2 FU v0 (0 : Int32) S
set_option maxRecDepth 100000 in
theorem T_X1_uniteGenotypes {g : GG} {l : Launch} (hl : l.stackTraces = false) {v0 : Nat} {S S' : Mem} (h : F_X1_uniteGenotypes v0 S = some S') : Call g l uX1_uniteGenotypes [.ref v0] S cvV S' := by
  refine call_of (by decide +kernel) hl rfl (Nat.le_of_ble_eq_true rfl) ?_
  show Run g l uX1_uniteGenotypes _ 0 [(0, .ref v0)] [] 0 0 S
  unfold F_X1_uniteGenotypes at h
  refine r_iconst (v := (0 : Int32)) dX1_uniteGenotypes_0 (by decide) ?_
  refine r_istore_n (lv' := [(1, .int ((0 : Int32))), (0, .ref v0)]) dX1_uniteGenotypes_1 rfl (by decide) rfl ?_
  refine r_sub [1, 0] rfl ?_
  exact T_X1_uniteGenotypes_L2 hl FU v0 (0 : Int32) S h

