def F_X3_init (v0 : Nat) (S : Mem) : Option Mem :=
    (ppF 3 0 (nw S 7 160) v0 (mX S)).bind fun S1 =>
    (ppI 3 1 S1 v0 (0 : Int32)).bind fun S2 =>
    some S2
set_option maxRecDepth 100000 in
theorem T_X3_init {g : GG} {l : Launch} (hl : l.stackTraces = false) {v0 : Nat} {S S' : Mem} (h : F_X3_init v0 S = some S') : Call g l uX3_init [.ref v0] S cvV S' := by
  refine call_of (by decide +kernel) hl rfl (Nat.le_of_ble_eq_true rfl) ?_
  show Run g l uX3_init _ 0 [(0, .ref v0)] [] 0 0 S
  unfold F_X3_init at h
  refine r_aload_n dX3_init_0 rfl 0 rfl ?_
  refine r_objInit dX3_init_1 wo3_3 w_obj (by decide) (Nat.le_of_ble_eq_true rfl) ?_
  refine r_aload_n dX3_init_4 rfl 0 rfl ?_
  refine r_sipush (v := (160 : Int32)) dX3_init_5 (by decide) ?_
  refine r_newI (N := 160) dX3_init_8 (by decide) (by decide) (by decide) rfl (by decide) (by decide) ?_
  obtain ⟨S1, h0, h⟩ := bd h
  refine q_putF h0 dX3_init_10 ff3_9 rfl rfl rfl rfl ?_
  refine r_aload_n dX3_init_13 rfl 0 rfl ?_
  refine r_iconst (v := (0 : Int32)) dX3_init_14 (by decide) ?_
  obtain ⟨S2, h0, h⟩ := bd h
  refine q_putI h0 dX3_init_15 fl3_15 rfl ?_
  cases h
  exact r_return dX3_init_18 rfl (by decide) (by decide)

def F_X4_init (v0 : Nat) (S : Mem) : Option Mem :=
    (ppF 4 3 (nw S 7 4) v0 (mX S)).bind fun S1 =>
    (ppF 4 4 (nw S1 7 4) v0 (mX S1)).bind fun S2 =>
    (ppF 4 5 (nw S2 7 4) v0 (mX S2)).bind fun S3 =>
    (ppF 4 6 (nw S3 7 4) v0 (mX S3)).bind fun S4 =>
    (ppF 4 7 (nw S4 8 2) v0 (mX S4)).bind fun S5 =>
    (ppF 4 8 (nw S5 7 20) v0 (mX S5)).bind fun S6 =>
    some S6
set_option maxRecDepth 100000 in
theorem T_X4_init {g : GG} {l : Launch} (hl : l.stackTraces = false) {v0 : Nat} {S S' : Mem} (h : F_X4_init v0 S = some S') : Call g l uX4_init [.ref v0] S cvV S' := by
  refine call_of (by decide +kernel) hl rfl (Nat.le_of_ble_eq_true rfl) ?_
  show Run g l uX4_init _ 0 [(0, .ref v0)] [] 0 0 S
  unfold F_X4_init at h
  refine r_aload_n dX4_init_0 rfl 0 rfl ?_
  refine r_objInit dX4_init_1 wo4_3 w_obj (by decide) (Nat.le_of_ble_eq_true rfl) ?_
  refine r_aload_n dX4_init_4 rfl 0 rfl ?_
  refine r_iconst (v := (4 : Int32)) dX4_init_5 (by decide) ?_
  refine r_newI (N := 4) dX4_init_6 (by decide) (by decide) (by decide) rfl (by decide) (by decide) ?_
  obtain ⟨S1, h0, h⟩ := bd h
  refine q_putF h0 dX4_init_8 ff4_9 rfl rfl rfl rfl ?_
  refine r_aload_n dX4_init_11 rfl 0 rfl ?_
  refine r_iconst (v := (4 : Int32)) dX4_init_12 (by decide) ?_
  refine r_newI (N := 4) dX4_init_13 (by decide) (by decide) (by decide) rfl (by decide) (by decide) ?_
  obtain ⟨S2, h0, h⟩ := bd h
  refine q_putF h0 dX4_init_15 ff4_15 rfl rfl rfl rfl ?_
  refine r_aload_n dX4_init_18 rfl 0 rfl ?_
  refine r_iconst (v := (4 : Int32)) dX4_init_19 (by decide) ?_
  refine r_newI (N := 4) dX4_init_20 (by decide) (by decide) (by decide) rfl (by decide) (by decide) ?_
  obtain ⟨S3, h0, h⟩ := bd h
  refine q_putF h0 dX4_init_22 ff4_18 rfl rfl rfl rfl ?_
  refine r_aload_n dX4_init_25 rfl 0 rfl ?_
  refine r_iconst (v := (4 : Int32)) dX4_init_26 (by decide) ?_
  refine r_newI (N := 4) dX4_init_27 (by decide) (by decide) (by decide) rfl (by decide) (by decide) ?_
  obtain ⟨S4, h0, h⟩ := bd h
  refine q_putF h0 dX4_init_29 ff4_21 rfl rfl rfl rfl ?_
  refine r_aload_n dX4_init_32 rfl 0 rfl ?_
  refine r_iconst (v := (2 : Int32)) dX4_init_33 (by decide) ?_
  refine r_newZ (N := 2) dX4_init_34 (by decide) (by decide) (by decide) rfl (by decide) (by decide) ?_
  obtain ⟨S5, h0, h⟩ := bd h
  refine q_putF h0 dX4_init_36 ff4_24 rfl rfl rfl rfl ?_
  refine r_aload_n dX4_init_39 rfl 0 rfl ?_
  refine r_bipush (v := (20 : Int32)) dX4_init_40 (by decide) ?_
  refine r_newI (N := 20) dX4_init_42 (by decide) (by decide) (by decide) rfl (by decide) (by decide) ?_
  obtain ⟨S6, h0, h⟩ := bd h
  refine q_putF h0 dX4_init_44 ff4_28 rfl rfl rfl rfl ?_
  cases h
  exact r_return dX4_init_47 rfl (by decide) (by decide)

def F_X2_init_L15 : Nat → Nat → Int32 → Mem → Option Mem
  | 0, _, _, _ => none
  | fu + 1, v0, v1, S =>
    if (24 : Int32) ≤ v1 then
      (ppI 2 1 S v0 (0 : Int32)).bind fun S2 =>
      some S2
    else
      (pgR 2 0 S v0).bind fun t3 =>
      (F_X4_init (mX S) (nw S 4 0)).bind fun S5 =>
      (psR S5 t3 v1 (mX S)).bind fun S6 =>
      F_X2_init_L15 fu v0 (v1 + 1) S6
set_option maxRecDepth 100000 in
theorem T_X2_init_L15 {g : GG} {l : Launch} (hl : l.stackTraces = false) {S' : Mem} : ∀ (fu j : Nat) (v0 : Nat) (S : Mem), j ≤ 24 → F_X2_init_L15 fu v0 (nI j) S = some S' → Run g l uX2_init (fin g uX2_init cvV S') 15 [(0, .ref v0), (1, .int (nI j))] [] (1 + 7 * j) (24 + 47 * j) S := by
  intro fu
  induction fu with
  | zero =>
    intro j v0 S hj h
    cases (show none = some _ from h)
  | succ fu ih =>
    intro j v0 S hj h
    unfold F_X2_init_L15 at h
    refine r_iload_n dX2_init_15 rfl 1 rfl ?_
    refine r_bipush (v := (24 : Int32)) dX2_init_16 (by decide) ?_
    refine r_icmp_ge (tgt := 40) dX2_init_18 (by decide) (fun c1 => ?_) (fun c1 => ?_)
    · rw [if_pos c1] at h
      have hj2 : 24 ≤ j := (nI_leI (a := 24) (b := j) (by omega) (by omega)).mp c1
      have hj3 : j = 24 := by omega
      subst hj3
      refine r_aload_n dX2_init_40 rfl 0 rfl ?_
      refine r_iconst (v := (0 : Int32)) dX2_init_41 (by decide) ?_
      obtain ⟨S2, h0, h⟩ := bd h
      refine q_putI h0 dX2_init_42 fl2_18 rfl ?_
      cases h
      exact r_return dX2_init_45 rfl (by decide) (by decide)
    · rw [if_neg c1] at h
      have hlt : j < 24 := Nat.lt_of_not_le fun q => c1 (nI_le (a := 24) (b := j) q (by omega))
      refine r_aload_n dX2_init_21 rfl 0 rfl ?_
      obtain ⟨t3, h0, h⟩ := bd h
      refine q_getR h0 dX2_init_22 fl2_11 rfl ?_
      refine r_iload_n dX2_init_25 rfl 1 rfl ?_
      refine r_new dX2_init_26 no2_9 rfl (by show 1 + 7 * j + 1 ≤ 169; omega) (by show 24 + 47 * j + 9 ≤ 1152; omega) ?_
      refine r_dup dX2_init_29 rfl ?_
      obtain ⟨S5, h0, h⟩ := bd h
      refine r_invI (As := []) (st := [.ref ((mX S)), .int (nI j), .ref t3]) dX2_init_30 li2_17 ⟨by decide, by decide, by show 1 + 7 * j + 1 + 6 ≤ 169; omega, by show 24 + 47 * j + 9 + 38 ≤ 1152; omega, rfl, fun _ => by decide⟩ (Nat.le_of_ble_eq_true rfl) rfl rfl (T_X4_init hl h0) ?_
      obtain ⟨S6, h0, h⟩ := bd h
      refine q_aastore h0 dX2_init_33 ?_
      refine r_iinc (v := nI (j + 1)) (lv' := [(1, .int (nI (j + 1))), (0, .ref v0)]) dX2_init_34 1 rfl (nI_1 j) (by decide) rfl ?_
      refine r_goto (tgt := 15) dX2_init_37 (by decide) ?_
      refine r_sub [1, 0] rfl ?_
      rw [nI_1] at h
      have e1 : 1 + 7 * j + 1 + (uR uX4_init).cells = 1 + 7 * (j + 1) := by show 1 + 7 * j + 1 + 6 = _; omega
      have e2 : 24 + 47 * j + nfT 4 + (uR uX4_init).slots = 24 + 47 * (j + 1) := by show 24 + 47 * j + 9 + 38 = _; omega
      rw [e1, e2]
      exact ih (j + 1) v0 S6 (by omega) h
def F_X2_init (v0 : Nat) (S : Mem) : Option Mem :=
    (ppF 2 0 (nw S 9 24) v0 (mX S)).bind fun S7 =>
    F_X2_init_L15 FU v0 (0 : Int32) S7
set_option maxRecDepth 100000 in
theorem T_X2_init {g : GG} {l : Launch} (hl : l.stackTraces = false) {v0 : Nat} {S S' : Mem} (h : F_X2_init v0 S = some S') : Call g l uX2_init [.ref v0] S cvV S' := by
  refine call_of (by decide +kernel) hl rfl (Nat.le_of_ble_eq_true rfl) ?_
  show Run g l uX2_init _ 0 [(0, .ref v0)] [] 0 0 S
  unfold F_X2_init at h
  refine r_aload_n dX2_init_0 rfl 0 rfl ?_
  refine r_objInit dX2_init_1 wo2_3 w_obj (by decide) (Nat.le_of_ble_eq_true rfl) ?_
  refine r_aload_n dX2_init_4 rfl 0 rfl ?_
  refine r_bipush (v := (24 : Int32)) dX2_init_5 (by decide) ?_
  refine r_newV (N := 24) dX2_init_7 wc2_9 (by decide) (by decide) (by decide) rfl (by decide) (by decide) ?_
  obtain ⟨S7, h0, h⟩ := bd h
  refine q_putF h0 dX2_init_10 ff2_11 rfl rfl rfl rfl ?_
  refine r_iconst (v := (0 : Int32)) dX2_init_13 (by decide) ?_
  refine r_istore_n (lv' := [(1, .int ((0 : Int32))), (0, .ref v0)]) dX2_init_14 rfl (by decide) rfl ?_
  refine r_sub [1, 0] rfl ?_
  exact T_X2_init_L15 hl FU 0 v0 S7 (by omega) h

def F_X1_init (v0 : Nat) (S : Mem) : Option Mem :=
    (F_X4_init (mX S) (nw S 4 0)).bind fun S2 =>
    (ppF 1 0 S2 v0 (mX S)).bind fun S3 =>
    (F_X4_init (mX S3) (nw S3 4 0)).bind fun S5 =>
    (ppF 1 1 S5 v0 (mX S3)).bind fun S6 =>
    (F_X4_init (mX S6) (nw S6 4 0)).bind fun S8 =>
    (ppF 1 2 S8 v0 (mX S6)).bind fun S9 =>
    (ppF 1 3 (nw S9 7 4) v0 (mX S9)).bind fun S10 =>
    some S10
set_option maxRecDepth 100000 in
theorem T_X1_init {g : GG} {l : Launch} (hl : l.stackTraces = false) {v0 : Nat} {S S' : Mem} (h : F_X1_init v0 S = some S') : Call g l uX1_init [.ref v0] S cvV S' := by
  refine call_of (by decide +kernel) hl rfl (Nat.le_of_ble_eq_true rfl) ?_
  show Run g l uX1_init _ 0 [(0, .ref v0)] [] 0 0 S
  unfold F_X1_init at h
  refine r_aload_n dX1_init_0 rfl 0 rfl ?_
  refine r_objInit dX1_init_1 wo1_3 w_obj (by decide) (Nat.le_of_ble_eq_true rfl) ?_
  refine r_aload_n dX1_init_4 rfl 0 rfl ?_
  refine r_new dX1_init_5 no1_9 rfl (by decide) (by decide) ?_
  refine r_dup dX1_init_8 rfl ?_
  obtain ⟨S2, h0, h⟩ := bd h
  refine r_invI (As := []) (st := [.ref ((mX S)), .ref v0]) dX1_init_9 li1_11 (by unfold RM; decide) (Nat.le_of_ble_eq_true rfl) rfl rfl (T_X4_init hl h0) ?_
  obtain ⟨S3, h0, h⟩ := bd h
  refine q_putF h0 dX1_init_12 ff1_12 rfl rfl rfl rfl ?_
  refine r_aload_n dX1_init_15 rfl 0 rfl ?_
  refine r_new dX1_init_16 no1_9 rfl (by decide) (by decide) ?_
  refine r_dup dX1_init_19 rfl ?_
  obtain ⟨S5, h0, h⟩ := bd h
  refine r_invI (As := []) (st := [.ref ((mX S3)), .ref v0]) dX1_init_20 li1_11 (by unfold RM; decide) (Nat.le_of_ble_eq_true rfl) rfl rfl (T_X4_init hl h0) ?_
  obtain ⟨S6, h0, h⟩ := bd h
  refine q_putF h0 dX1_init_23 ff1_18 rfl rfl rfl rfl ?_
  refine r_aload_n dX1_init_26 rfl 0 rfl ?_
  refine r_new dX1_init_27 no1_9 rfl (by decide) (by decide) ?_
  refine r_dup dX1_init_30 rfl ?_
  obtain ⟨S8, h0, h⟩ := bd h
  refine r_invI (As := []) (st := [.ref ((mX S6)), .ref v0]) dX1_init_31 li1_11 (by unfold RM; decide) (Nat.le_of_ble_eq_true rfl) rfl rfl (T_X4_init hl h0) ?_
  obtain ⟨S9, h0, h⟩ := bd h
  refine q_putF h0 dX1_init_34 ff1_21 rfl rfl rfl rfl ?_
  refine r_aload_n dX1_init_37 rfl 0 rfl ?_
  refine r_iconst (v := (4 : Int32)) dX1_init_38 (by decide) ?_
  refine r_newI (N := 4) dX1_init_39 (by decide) (by decide) (by decide) rfl (by decide) (by decide) ?_
  obtain ⟨S10, h0, h⟩ := bd h
  refine q_putF h0 dX1_init_41 ff1_24 rfl rfl rfl rfl ?_
  cases h
  exact r_return dX1_init_44 rfl (by decide) (by decide)

def F_X0_init (v0 : Nat) (S : Mem) : Option Mem :=
    (ppF 0 0 (nw S 7 120) v0 (mX S)).bind fun S1 =>
    (ppI 0 1 S1 v0 (0 : Int32)).bind fun S2 =>
    (ppI 0 2 S2 v0 (0 : Int32)).bind fun S3 =>
    some S3
set_option maxRecDepth 100000 in
theorem T_X0_init {g : GG} {l : Launch} (hl : l.stackTraces = false) {v0 : Nat} {S S' : Mem} (h : F_X0_init v0 S = some S') : Call g l uX0_init [.ref v0] S cvV S' := by
  refine call_of (by decide +kernel) hl rfl (Nat.le_of_ble_eq_true rfl) ?_
  show Run g l uX0_init _ 0 [(0, .ref v0)] [] 0 0 S
  unfold F_X0_init at h
  refine r_aload_n dX0_init_0 rfl 0 rfl ?_
  refine r_objInit dX0_init_1 wo0_3 w_obj (by decide) (Nat.le_of_ble_eq_true rfl) ?_
  refine r_aload_n dX0_init_4 rfl 0 rfl ?_
  refine r_bipush (v := (120 : Int32)) dX0_init_5 (by decide) ?_
  refine r_newI (N := 120) dX0_init_7 (by decide) (by decide) (by decide) rfl (by decide) (by decide) ?_
  obtain ⟨S1, h0, h⟩ := bd h
  refine q_putF h0 dX0_init_9 ff0_9 rfl rfl rfl rfl ?_
  refine r_aload_n dX0_init_12 rfl 0 rfl ?_
  refine r_iconst (v := (0 : Int32)) dX0_init_13 (by decide) ?_
  obtain ⟨S2, h0, h⟩ := bd h
  refine q_putI h0 dX0_init_14 fl0_15 rfl ?_
  refine r_aload_n dX0_init_17 rfl 0 rfl ?_
  refine r_iconst (v := (0 : Int32)) dX0_init_18 (by decide) ?_
  obtain ⟨S3, h0, h⟩ := bd h
  refine q_putI h0 dX0_init_19 fl0_19 rfl ?_
  cases h
  exact r_return dX0_init_22 rfl (by decide) (by decide)

def F_X5_init (v0 : Nat) (S : Mem) : Option Mem :=
    (F_X3_init (mX S) (nw S 3 0)).bind fun S2 =>
    (ppF 5 0 S2 v0 (mX S)).bind fun S3 =>
    (F_X2_init (mX S3) (nw S3 2 0)).bind fun S5 =>
    (ppF 5 1 S5 v0 (mX S3)).bind fun S6 =>
    (F_X4_init (mX S6) (nw S6 4 0)).bind fun S8 =>
    (ppF 5 2 S8 v0 (mX S6)).bind fun S9 =>
    (ppZ 5 3 S9 v0 (0 : Int32)).bind fun S10 =>
    (F_X4_init (mX S10) (nw S10 4 0)).bind fun S12 =>
    (ppF 5 4 S12 v0 (mX S10)).bind fun S13 =>
    (F_X1_init (mX S13) (nw S13 1 0)).bind fun S15 =>
    (ppF 5 5 S15 v0 (mX S13)).bind fun S16 =>
    (F_X0_init (mX S16) (nw S16 0 0)).bind fun S18 =>
    (ppF 5 6 S18 v0 (mX S16)).bind fun S19 =>
    (F_X0_init (mX S19) (nw S19 0 0)).bind fun S21 =>
    (ppF 5 7 S21 v0 (mX S19)).bind fun S22 =>
    some S22
set_option maxRecDepth 100000 in
theorem T_X5_init {g : GG} {l : Launch} (hl : l.stackTraces = false) {v0 : Nat} {S S' : Mem} (h : F_X5_init v0 S = some S') : Call g l uX5_init [.ref v0] S cvV S' := by
  refine call_of (by decide +kernel) hl rfl (Nat.le_of_ble_eq_true rfl) ?_
  show Run g l uX5_init _ 0 [(0, .ref v0)] [] 0 0 S
  unfold F_X5_init at h
  refine r_aload_n dX5_init_0 rfl 0 rfl ?_
  refine r_objInit dX5_init_1 wo5_1 w_obj (by decide) (Nat.le_of_ble_eq_true rfl) ?_
  refine r_aload_n dX5_init_4 rfl 0 rfl ?_
  refine r_new dX5_init_5 no5_7 rfl (by decide) (by decide) ?_
  refine r_dup dX5_init_8 rfl ?_
  obtain ⟨S2, h0, h⟩ := bd h
  refine r_invI (As := []) (st := [.ref ((mX S)), .ref v0]) dX5_init_9 li5_9 (by unfold RM; decide) (Nat.le_of_ble_eq_true rfl) rfl rfl (T_X3_init hl h0) ?_
  obtain ⟨S3, h0, h⟩ := bd h
  refine q_putF h0 dX5_init_12 ff5_10 rfl rfl rfl rfl ?_
  refine r_aload_n dX5_init_15 rfl 0 rfl ?_
  refine r_new dX5_init_16 no5_16 rfl (by decide) (by decide) ?_
  refine r_dup dX5_init_19 rfl ?_
  obtain ⟨S5, h0, h⟩ := bd h
  refine r_invI (As := []) (st := [.ref ((mX S3)), .ref v0]) dX5_init_20 li5_18 (by unfold RM; decide) (Nat.le_of_ble_eq_true rfl) rfl rfl (T_X2_init hl h0) ?_
  obtain ⟨S6, h0, h⟩ := bd h
  refine q_putF h0 dX5_init_23 ff5_19 rfl rfl rfl rfl ?_
  refine r_aload_n dX5_init_26 rfl 0 rfl ?_
  refine r_new dX5_init_27 no5_23 rfl (by decide) (by decide) ?_
  refine r_dup dX5_init_30 rfl ?_
  obtain ⟨S8, h0, h⟩ := bd h
  refine r_invI (As := []) (st := [.ref ((mX S6)), .ref v0]) dX5_init_31 li5_25 (by unfold RM; decide) (Nat.le_of_ble_eq_true rfl) rfl rfl (T_X4_init hl h0) ?_
  obtain ⟨S9, h0, h⟩ := bd h
  refine q_putF h0 dX5_init_34 ff5_26 rfl rfl rfl rfl ?_
  refine r_aload_n dX5_init_37 rfl 0 rfl ?_
  refine r_iconst (v := (0 : Int32)) dX5_init_38 (by decide) ?_
  obtain ⟨S10, h0, h⟩ := bd h
  refine q_putZ h0 dX5_init_39 fl5_30 rfl ?_
  refine r_aload_n dX5_init_42 rfl 0 rfl ?_
  refine r_new dX5_init_43 no5_23 rfl (by decide) (by decide) ?_
  refine r_dup dX5_init_46 rfl ?_
  obtain ⟨S12, h0, h⟩ := bd h
  refine r_invI (As := []) (st := [.ref ((mX S10)), .ref v0]) dX5_init_47 li5_25 (by unfold RM; decide) (Nat.le_of_ble_eq_true rfl) rfl rfl (T_X4_init hl h0) ?_
  obtain ⟨S13, h0, h⟩ := bd h
  refine q_putF h0 dX5_init_50 ff5_34 rfl rfl rfl rfl ?_
  refine r_aload_n dX5_init_53 rfl 0 rfl ?_
  refine r_new dX5_init_54 no5_37 rfl (by decide) (by decide) ?_
  refine r_dup dX5_init_57 rfl ?_
  obtain ⟨S15, h0, h⟩ := bd h
  refine r_invI (As := []) (st := [.ref ((mX S13)), .ref v0]) dX5_init_58 li5_39 (by unfold RM; decide) (Nat.le_of_ble_eq_true rfl) rfl rfl (T_X1_init hl h0) ?_
  obtain ⟨S16, h0, h⟩ := bd h
  refine q_putF h0 dX5_init_61 ff5_40 rfl rfl rfl rfl ?_
  refine r_aload_n dX5_init_64 rfl 0 rfl ?_
  refine r_new dX5_init_65 no5_44 rfl (by decide) (by decide) ?_
  refine r_dup dX5_init_68 rfl ?_
  obtain ⟨S18, h0, h⟩ := bd h
  refine r_invI (As := []) (st := [.ref ((mX S16)), .ref v0]) dX5_init_69 li5_46 (by unfold RM; decide) (Nat.le_of_ble_eq_true rfl) rfl rfl (T_X0_init hl h0) ?_
  obtain ⟨S19, h0, h⟩ := bd h
  refine q_putF h0 dX5_init_72 ff5_47 rfl rfl rfl rfl ?_
  refine r_aload_n dX5_init_75 rfl 0 rfl ?_
  refine r_new dX5_init_76 no5_44 rfl (by decide) (by decide) ?_
  refine r_dup dX5_init_79 rfl ?_
  obtain ⟨S21, h0, h⟩ := bd h
  refine r_invI (As := []) (st := [.ref ((mX S19)), .ref v0]) dX5_init_80 li5_46 (by unfold RM; decide) (Nat.le_of_ble_eq_true rfl) rfl rfl (T_X0_init hl h0) ?_
  obtain ⟨S22, h0, h⟩ := bd h
  refine q_putF h0 dX5_init_83 ff5_51 rfl rfl rfl rfl ?_
  cases h
  exact r_return dX5_init_86 rfl (by decide) (by decide)

def F_X5_baseOf (v0 : Int64) (v2 : Int32) (v3 : Int32) (S : Mem) : Option (Int32 × Mem) :=
    some ((((v0.toUInt64 >>> (((2 : Int32) * ((v2 - (1 : Int32)) - v3)).toInt64.toUInt64 &&& Int64.toUInt64 63)).toInt64).toInt32) &&& (3 : Int32), S)
set_option maxRecDepth 100000 in
theorem T_X5_baseOf {g : GG} {l : Launch} (hl : l.stackTraces = false) {v0 : Int64} {v2 : Int32} {v3 : Int32} {S S' : Mem} {r : Int32} (h : F_X5_baseOf v0 v2 v3 S = some (r, S')) : Call g l uX5_baseOf [.long v0, .int v2, .int v3] S (cvI r) S' := by
  refine call_of (by decide +kernel) hl rfl (Nat.le_of_ble_eq_true rfl) ?_
  show Run g l uX5_baseOf _ 0 [(0, .long v0), (2, .int v2), (3, .int v3)] [] 0 0 S
  unfold F_X5_baseOf at h
  refine r_lload_n dX5_baseOf_0 rfl 0 rfl ?_
  refine r_iconst (v := (2 : Int32)) dX5_baseOf_1 (by decide) ?_
  refine r_iload_n dX5_baseOf_2 rfl 1 rfl ?_
  refine r_iconst (v := (1 : Int32)) dX5_baseOf_3 (by decide) ?_
  refine r_isub dX5_baseOf_4 ?_
  refine r_iload_n dX5_baseOf_5 rfl 2 rfl ?_
  refine r_isub dX5_baseOf_6 ?_
  refine r_imul dX5_baseOf_7 ?_
  refine r_lushr dX5_baseOf_8 ?_
  refine r_l2i dX5_baseOf_9 ?_
  refine r_iconst (v := (3 : Int32)) dX5_baseOf_10 (by decide) ?_
  refine r_iand dX5_baseOf_11 ?_
  cases h
  exact r_ireturn dX5_baseOf_12 rfl rfl (by decide) (by decide)

def F_X3_append_L3 : Nat → Nat → Int64 → Int32 → Int32 → Mem → Option Mem
  | 0, _, _, _, _, _ => none
  | fu + 1, v0, v1, v3, v4, S =>
    if v3 ≤ v4 then
      some S
    else
      (pgI 3 1 S v0).bind fun t2 =>
      if (160 : Int32) ≤ t2 then
        some S
      else
        (pgR 3 0 S v0).bind fun t4 =>
        (pgI 3 1 S v0).bind fun t5 =>
        bd2 (F_X5_baseOf v1 v3 v4 S) fun t6 S7 =>
        (psI S7 t4 t5 t6).bind fun S8 =>
        (pgI 3 1 S8 v0).bind fun t9 =>
        (ppI 3 1 S8 v0 (t9 + (1 : Int32))).bind fun S10 =>
        F_X3_append_L3 fu v0 v1 v3 (v4 + 1) S10
set_option maxRecDepth 100000 in
theorem T_X3_append_L3 {g : GG} {l : Launch} (hl : l.stackTraces = false) {S' : Mem}  : ∀ (fu : Nat) (v0 : Nat) (v1 : Int64) (v3 : Int32) (v4 : Int32) (S : Mem), F_X3_append_L3 fu v0 v1 v3 v4 S = some S' → Run g l uX3_append (fin g uX3_append cvV S') 3 [(0, .ref v0), (1, .long v1), (3, .int v3), (4, .int v4)] [] 0 0 S := by
  intro fu
  induction fu with
  | zero =>
    intro v0 v1 v3 v4 S h
    cases (show none = some _ from h)
  | succ fu ih =>
    intro v0 v1 v3 v4 S h
    unfold F_X3_append_L3 at h
    refine r_iload dX3_append_3 3 rfl ?_
    refine r_iload_n dX3_append_5 rfl 2 rfl ?_
    refine r_icmp_ge (tgt := 51) dX3_append_6 (by decide) (fun c1 => ?_) (fun c1 => ?_)
    · rw [if_pos c1] at h
      cases h
      exact r_return dX3_append_51 rfl (by decide) (by decide)
    · rw [if_neg c1] at h
      refine r_aload_n dX3_append_9 rfl 0 rfl ?_
      obtain ⟨t2, h0, h⟩ := bd h
      refine q_getI h0 dX3_append_10 fl3_15 rfl ?_
      refine r_sipush (v := (160 : Int32)) dX3_append_13 (by decide) ?_
      refine r_icmp_ge (tgt := 51) dX3_append_16 (by decide) (fun c3 => ?_) (fun c3 => ?_)
      · rw [if_pos c3] at h
        cases h
        exact r_return dX3_append_51 rfl (by decide) (by decide)
      · rw [if_neg c3] at h
        refine r_aload_n dX3_append_19 rfl 0 rfl ?_
        obtain ⟨t4, h0, h⟩ := bd h
        refine q_getR h0 dX3_append_20 fl3_9 rfl ?_
        refine r_aload_n dX3_append_23 rfl 0 rfl ?_
        obtain ⟨t5, h0, h⟩ := bd h
        refine q_getI h0 dX3_append_24 fl3_15 rfl ?_
        refine r_lload_n dX3_append_27 rfl 1 rfl ?_
        refine r_iload_n dX3_append_28 rfl 2 rfl ?_
        refine r_iload dX3_append_29 3 rfl ?_
        obtain ⟨t6, S7, h0, h⟩ := bd2_s h
        refine r_invN (As := [.long v1, .int v3, .int v4]) (st := [.int t5, .ref t4]) dX3_append_31 ln3_19 (by unfold RM; decide) (Nat.le_of_ble_eq_true rfl) rfl rfl (T_X5_baseOf hl h0) ?_
        obtain ⟨S8, h0, h⟩ := bd h
        refine q_iastore h0 dX3_append_34 ?_
        refine r_aload_n dX3_append_35 rfl 0 rfl ?_
        refine r_dup dX3_append_36 rfl ?_
        obtain ⟨t9, h0, h⟩ := bd h
        refine q_getI h0 dX3_append_37 fl3_15 rfl ?_
        refine r_iconst (v := (1 : Int32)) dX3_append_40 (by decide) ?_
        refine r_iadd dX3_append_41 ?_
        obtain ⟨S10, h0, h⟩ := bd h
        refine q_putI h0 dX3_append_42 fl3_15 rfl ?_
        refine r_iinc (v := v4 + 1) (lv' := [(4, .int (v4 + 1)), (0, .ref v0), (1, .long v1), (3, .int v3)]) dX3_append_45 3 rfl rfl (by decide) rfl ?_
        refine r_goto (tgt := 3) dX3_append_48 (by decide) ?_
        refine r_sub [1, 2, 3, 0] rfl ?_
        exact ih v0 v1 v3 (v4 + 1) S10 h

def F_X3_append (v0 : Nat) (v1 : Int64) (v3 : Int32) (S : Mem) : Option Mem :=
    F_X3_append_L3 FU v0 v1 v3 (0 : Int32) S
set_option maxRecDepth 100000 in
theorem T_X3_append {g : GG} {l : Launch} (hl : l.stackTraces = false) {v0 : Nat} {v1 : Int64} {v3 : Int32} {S S' : Mem} (h : F_X3_append v0 v1 v3 S = some S') : Call g l uX3_append [.ref v0, .long v1, .int v3] S cvV S' := by
  refine call_of (by decide +kernel) hl rfl (Nat.le_of_ble_eq_true rfl) ?_
  show Run g l uX3_append _ 0 [(0, .ref v0), (1, .long v1), (3, .int v3)] [] 0 0 S
  unfold F_X3_append at h
  refine r_iconst (v := (0 : Int32)) dX3_append_0 (by decide) ?_
  refine r_istore (lv' := [(4, .int ((0 : Int32))), (0, .ref v0), (1, .long v1), (3, .int v3)]) dX3_append_1 (by decide) rfl ?_
  refine r_sub [1, 2, 3, 0] rfl ?_
  exact T_X3_append_L3 hl FU v0 v1 v3 (0 : Int32) S h

def F_X5_reference (v0 : Nat) (v1 : Int64) (v3 : Int32) (S : Mem) : Option ((Int32 ⊕ String) × Mem) :=
    if v3 < (1 : Int32) then
      some (.inr "java/lang/IllegalArgumentException", S)
    else
      if v3 ≤ (16 : Int32) then
        (pgI 5 3 S v0).bind fun t3 =>
        if t3 = 0 then
          (pgR 5 1 S v0).bind fun t5 =>
          (pgI 2 1 S t5).bind fun t6 =>
          if t6 ≤ 0 then
            (pgR 5 0 S v0).bind fun t8 =>
            (pgI 3 1 S t8).bind fun t9 =>
            if (t9 + v3) ≤ (160 : Int32) then
              (pgR 5 0 S v0).bind fun t11 =>
              (pk 3 S t11).bind fun _ =>
              (F_X3_append t11 v1 v3 S).bind fun S14 =>
              (pgR 5 0 S14 v0).bind fun t15 =>
              (pgI 3 1 S14 t15).bind fun t16 =>
              some (.inl t16, S14)
            else
              some (.inr "java/lang/IllegalStateException", S)
          else
            some (.inr "java/lang/IllegalStateException", S)
        else
          some (.inr "java/lang/IllegalStateException", S)
      else
        some (.inr "java/lang/IllegalArgumentException", S)
set_option maxRecDepth 100000 in
theorem T_X5_reference {g : GG} {l : Launch} (hl : l.stackTraces = false) {v0 : Nat} {v1 : Int64} {v3 : Int32} {S S' : Mem} {r : Int32 ⊕ String} (h : F_X5_reference v0 v1 v3 S = some (r, S')) : Call g l uX5_reference [.ref v0, .long v1, .int v3] S (cxI r) S' := by
  refine call_of (by decide +kernel) hl rfl (Nat.le_of_ble_eq_true rfl) ?_
  show Run g l uX5_reference _ 0 [(0, .ref v0), (1, .long v1), (3, .int v3)] [] 0 0 S
  unfold F_X5_reference at h
  refine r_iload_n dX5_reference_0 rfl 2 rfl ?_
  refine r_iconst (v := (1 : Int32)) dX5_reference_1 (by decide) ?_
  refine r_icmp_lt (tgt := 11) dX5_reference_2 (by decide) (fun c1 => ?_) (fun c1 => ?_)
  · rw [if_pos c1] at h
    cases h
    exact r_throwS (text := "n is not 1 .. 16") tw_54_58 rfl (by decide) dX5_reference_11 dX5_reference_14 dX5_reference_15 dX5_reference_17 dX5_reference_20 rfl rfl (by decide) (Nat.le_of_ble_eq_true rfl) (by decide) (by decide)
  · rw [if_neg c1] at h
    refine r_iload_n dX5_reference_5 rfl 2 rfl ?_
    refine r_bipush (v := (16 : Int32)) dX5_reference_6 (by decide) ?_
    refine r_icmp_le (tgt := 21) dX5_reference_8 (by decide) (fun c2 => ?_) (fun c2 => ?_)
    · rw [if_pos c2] at h
      refine r_aload_n dX5_reference_21 rfl 0 rfl ?_
      obtain ⟨t3, h0, h⟩ := bd h
      refine q_getI h0 dX5_reference_22 fl5_30 rfl ?_
      refine r_if_ne (tgt := 38) dX5_reference_25 (by decide) (fun c4 => ?_) (fun c4 => ?_)
      · rw [if_neg c4] at h
        cases h
        exact r_throwS (text := "there are records or a draft") tw_65_69 rfl (by decide) dX5_reference_38 dX5_reference_41 dX5_reference_42 dX5_reference_44 dX5_reference_47 rfl rfl (by decide) (Nat.le_of_ble_eq_true rfl) (by decide) (by decide)
      · rw [if_pos c4] at h
        refine r_aload_n dX5_reference_28 rfl 0 rfl ?_
        obtain ⟨t5, h0, h⟩ := bd h
        refine q_getR h0 dX5_reference_29 fl5_19 rfl ?_
        obtain ⟨t6, h0, h⟩ := bd h
        refine q_getI h0 dX5_reference_32 fl5_61 rfl ?_
        refine r_if_le (tgt := 48) dX5_reference_35 (by decide) (fun c7 => ?_) (fun c7 => ?_)
        · rw [if_pos c7] at h
          refine r_aload_n dX5_reference_48 rfl 0 rfl ?_
          obtain ⟨t8, h0, h⟩ := bd h
          refine q_getR h0 dX5_reference_49 fl5_10 rfl ?_
          obtain ⟨t9, h0, h⟩ := bd h
          refine q_getI h0 dX5_reference_52 fl5_70 rfl ?_
          refine r_iload_n dX5_reference_55 rfl 2 rfl ?_
          refine r_iadd dX5_reference_56 ?_
          refine r_sipush (v := (160 : Int32)) dX5_reference_57 (by decide) ?_
          refine r_icmp_le (tgt := 73) dX5_reference_60 (by decide) (fun c10 => ?_) (fun c10 => ?_)
          · rw [if_pos c10] at h
            refine r_aload_n dX5_reference_73 rfl 0 rfl ?_
            obtain ⟨t11, h0, h⟩ := bd h
            refine q_getR h0 dX5_reference_74 fl5_10 rfl ?_
            refine r_lload_n dX5_reference_77 rfl 1 rfl ?_
            refine r_iload_n dX5_reference_78 rfl 2 rfl ?_
            obtain ⟨z12, hk, h⟩ := bd h
            obtain ⟨S14, h0, h⟩ := bd h
            refine r_invV (As := [.long v1, .int v3]) (st := []) dX5_reference_79 lv5_75 (by unfold RM; decide) (Nat.le_of_ble_eq_true rfl) rfl rfl (pk_ok hk) (T_X3_append hl h0) ?_
            refine r_aload_n dX5_reference_82 rfl 0 rfl ?_
            obtain ⟨t15, h0, h⟩ := bd h
            refine q_getR h0 dX5_reference_83 fl5_10 rfl ?_
            obtain ⟨t16, h0, h⟩ := bd h
            refine q_getI h0 dX5_reference_86 fl5_70 rfl ?_
            cases h
            exact r_ireturn dX5_reference_89 rfl rfl (by decide) (by decide)
          · rw [if_neg c10] at h
            cases h
            exact r_throwS (text := "there would be more than 160 bases") tw_65_69 rfl (by decide) dX5_reference_63 dX5_reference_66 dX5_reference_67 dX5_reference_69 dX5_reference_72 rfl rfl (by decide) (Nat.le_of_ble_eq_true rfl) (by decide) (by decide)
        · rw [if_neg c7] at h
          cases h
          exact r_throwS (text := "there are records or a draft") tw_65_69 rfl (by decide) dX5_reference_38 dX5_reference_41 dX5_reference_42 dX5_reference_44 dX5_reference_47 rfl rfl (by decide) (Nat.le_of_ble_eq_true rfl) (by decide) (by decide)
    · rw [if_neg c2] at h
      cases h
      exact r_throwS (text := "n is not 1 .. 16") tw_54_58 rfl (by decide) dX5_reference_11 dX5_reference_14 dX5_reference_15 dX5_reference_17 dX5_reference_20 rfl rfl (by decide) (Nat.le_of_ble_eq_true rfl) (by decide) (by decide)

def F_X3_covers (v0 : Nat) (v1 : Int32) (v2 : Int32) (S : Mem) : Option (Int32 × Mem) :=
    if v1 < (1 : Int32) then
      some ((0 : Int32), S)
    else
      (pgI 3 1 S v0).bind fun t2 =>
      if ((t2 - v2) + (1 : Int32)) < v1 then
        some ((0 : Int32), S)
      else
        some ((1 : Int32), S)
set_option maxRecDepth 100000 in
theorem T_X3_covers {g : GG} {l : Launch} (hl : l.stackTraces = false) {v0 : Nat} {v1 : Int32} {v2 : Int32} {S S' : Mem} {r : Int32} (h : F_X3_covers v0 v1 v2 S = some (r, S')) : Call g l uX3_covers [.ref v0, .int v1, .int v2] S (cvI r) S' := by
  refine call_of (by decide +kernel) hl rfl (Nat.le_of_ble_eq_true rfl) ?_
  show Run g l uX3_covers _ 0 [(0, .ref v0), (1, .int v1), (2, .int v2)] [] 0 0 S
  unfold F_X3_covers at h
  refine r_iload_n dX3_covers_0 rfl 1 rfl ?_
  refine r_iconst (v := (1 : Int32)) dX3_covers_1 (by decide) ?_
  refine r_icmp_lt (tgt := 21) dX3_covers_2 (by decide) (fun c1 => ?_) (fun c1 => ?_)
  · rw [if_pos c1] at h
    refine r_iconst (v := (0 : Int32)) dX3_covers_21 (by decide) ?_
    cases h
    exact r_ireturn dX3_covers_22 rfl (by decide) (by decide) (by decide)
  · rw [if_neg c1] at h
    refine r_iload_n dX3_covers_5 rfl 1 rfl ?_
    refine r_aload_n dX3_covers_6 rfl 0 rfl ?_
    obtain ⟨t2, h0, h⟩ := bd h
    refine q_getI h0 dX3_covers_7 fl3_15 rfl ?_
    refine r_iload_n dX3_covers_10 rfl 2 rfl ?_
    refine r_isub dX3_covers_11 ?_
    refine r_iconst (v := (1 : Int32)) dX3_covers_12 (by decide) ?_
    refine r_iadd dX3_covers_13 ?_
    refine r_icmp_gt (tgt := 21) dX3_covers_14 (by decide) (fun c3 => ?_) (fun c3 => ?_)
    · rw [if_pos c3] at h
      refine r_iconst (v := (0 : Int32)) dX3_covers_21 (by decide) ?_
      cases h
      exact r_ireturn dX3_covers_22 rfl (by decide) (by decide) (by decide)
    · rw [if_neg c3] at h
      refine r_iconst (v := (1 : Int32)) dX3_covers_17 (by decide) ?_
      refine r_goto (tgt := 22) dX3_covers_18 (by decide) ?_
      cases h
      exact r_ireturn dX3_covers_22 rfl (by decide) (by decide) (by decide)

def F_X4_fillLikelihoods_L2 : Nat → Nat → Int32 → Int32 → Mem → Option Mem
  | 0, _, _, _, _ => none
  | fu + 1, v0, v1, v2, S =>
    if (20 : Int32) ≤ v2 then
      some S
    else
      (pgR 4 8 S v0).bind fun t2 =>
      (psI S t2 v2 v1).bind fun S3 =>
      F_X4_fillLikelihoods_L2 fu v0 v1 (v2 + 1) S3
set_option maxRecDepth 100000 in
theorem T_X4_fillLikelihoods_L2 {g : GG} {l : Launch} (hl : l.stackTraces = false) {S' : Mem}  : ∀ (fu : Nat) (v0 : Nat) (v1 : Int32) (v2 : Int32) (S : Mem), F_X4_fillLikelihoods_L2 fu v0 v1 v2 S = some S' → Run g l uX4_fillLikelihoods (fin g uX4_fillLikelihoods cvV S') 2 [(0, .ref v0), (1, .int v1), (2, .int v2)] [] 0 0 S := by
  intro fu
  induction fu with
  | zero =>
    intro v0 v1 v2 S h
    cases (show none = some _ from h)
  | succ fu ih =>
    intro v0 v1 v2 S h
    unfold F_X4_fillLikelihoods_L2 at h
    refine r_iload_n dX4_fillLikelihoods_2 rfl 2 rfl ?_
    refine r_bipush (v := (20 : Int32)) dX4_fillLikelihoods_3 (by decide) ?_
    refine r_icmp_ge (tgt := 21) dX4_fillLikelihoods_5 (by decide) (fun c1 => ?_) (fun c1 => ?_)
    · rw [if_pos c1] at h
      cases h
      exact r_return dX4_fillLikelihoods_21 rfl (by decide) (by decide)
    · rw [if_neg c1] at h
      refine r_aload_n dX4_fillLikelihoods_8 rfl 0 rfl ?_
      obtain ⟨t2, h0, h⟩ := bd h
      refine q_getR h0 dX4_fillLikelihoods_9 fl4_28 rfl ?_
      refine r_iload_n dX4_fillLikelihoods_12 rfl 2 rfl ?_
      refine r_iload_n dX4_fillLikelihoods_13 rfl 1 rfl ?_
      obtain ⟨S3, h0, h⟩ := bd h
      refine q_iastore h0 dX4_fillLikelihoods_14 ?_
      refine r_iinc (v := v2 + 1) (lv' := [(2, .int (v2 + 1)), (0, .ref v0), (1, .int v1)]) dX4_fillLikelihoods_15 2 rfl rfl (by decide) rfl ?_
      refine r_goto (tgt := 2) dX4_fillLikelihoods_18 (by decide) ?_
      refine r_sub [1, 2, 0] rfl ?_
      exact ih v0 v1 (v2 + 1) S3 h

def F_X4_fillLikelihoods (v0 : Nat) (v1 : Int32) (S : Mem) : Option Mem :=
    F_X4_fillLikelihoods_L2 FU v0 v1 (0 : Int32) S
set_option maxRecDepth 100000 in
theorem T_X4_fillLikelihoods {g : GG} {l : Launch} (hl : l.stackTraces = false) {v0 : Nat} {v1 : Int32} {S S' : Mem} (h : F_X4_fillLikelihoods v0 v1 S = some S') : Call g l uX4_fillLikelihoods [.ref v0, .int v1] S cvV S' := by
  refine call_of (by decide +kernel) hl rfl (Nat.le_of_ble_eq_true rfl) ?_
  show Run g l uX4_fillLikelihoods _ 0 [(0, .ref v0), (1, .int v1)] [] 0 0 S
  unfold F_X4_fillLikelihoods at h
  refine r_iconst (v := (0 : Int32)) dX4_fillLikelihoods_0 (by decide) ?_
  refine r_istore_n (lv' := [(2, .int ((0 : Int32))), (0, .ref v0), (1, .int v1)]) dX4_fillLikelihoods_1 rfl (by decide) rfl ?_
  refine r_sub [1, 2, 0] rfl ?_
  exact T_X4_fillLikelihoods_L2 hl FU v0 v1 (0 : Int32) S h

def F_X4_clear_L37 : Nat → Nat → Int32 → Mem → Option Mem
  | 0, _, _, _ => none
  | fu + 1, v0, v1, S =>
    if (2 : Int32) ≤ v1 then
      (pk 4 S v0).bind fun _ =>
      (F_X4_fillLikelihoods v0 (0 : Int32) S).bind fun S4 =>
      some S4
    else
      (pgR 4 7 S v0).bind fun t5 =>
      (psZ S t5 v1 (0 : Int32)).bind fun S6 =>
      F_X4_clear_L37 fu v0 (v1 + 1) S6
set_option maxRecDepth 100000 in
theorem T_X4_clear_L37 {g : GG} {l : Launch} (hl : l.stackTraces = false) {S' : Mem}  : ∀ (fu : Nat) (v0 : Nat) (v1 : Int32) (S : Mem), F_X4_clear_L37 fu v0 v1 S = some S' → Run g l uX4_clear (fin g uX4_clear cvV S') 37 [(0, .ref v0), (1, .int v1)] [] 0 0 S := by
  intro fu
  induction fu with
  | zero =>
    intro v0 v1 S h
    cases (show none = some _ from h)
  | succ fu ih =>
    intro v0 v1 S h
    unfold F_X4_clear_L37 at h
    refine r_iload_n dX4_clear_37 rfl 1 rfl ?_
    refine r_iconst (v := (2 : Int32)) dX4_clear_38 (by decide) ?_
    refine r_icmp_ge (tgt := 55) dX4_clear_39 (by decide) (fun c1 => ?_) (fun c1 => ?_)
    · rw [if_pos c1] at h
      refine r_aload_n dX4_clear_55 rfl 0 rfl ?_
      refine r_iconst (v := (0 : Int32)) dX4_clear_56 (by decide) ?_
      obtain ⟨z2, hk, h⟩ := bd h
      obtain ⟨S4, h0, h⟩ := bd h
      refine r_invV (As := [.int ((0 : Int32))]) (st := []) dX4_clear_57 lv4_41 (by unfold RM; decide) (Nat.le_of_ble_eq_true rfl) rfl rfl (pk_ok hk) (T_X4_fillLikelihoods hl h0) ?_
      cases h
      exact r_return dX4_clear_60 rfl (by decide) (by decide)
    · rw [if_neg c1] at h
      refine r_aload_n dX4_clear_42 rfl 0 rfl ?_
      obtain ⟨t5, h0, h⟩ := bd h
      refine q_getR h0 dX4_clear_43 fl4_24 rfl ?_
      refine r_iload_n dX4_clear_46 rfl 1 rfl ?_
      refine r_iconst (v := (0 : Int32)) dX4_clear_47 (by decide) ?_
      obtain ⟨S6, h0, h⟩ := bd h
      refine q_bastore h0 dX4_clear_48 ?_
      refine r_iinc (v := v1 + 1) (lv' := [(1, .int (v1 + 1)), (0, .ref v0)]) dX4_clear_49 1 rfl rfl (by decide) rfl ?_
      refine r_goto (tgt := 37) dX4_clear_52 (by decide) ?_
      refine r_sub [1, 0] rfl ?_
      exact ih v0 (v1 + 1) S6 h

def F_X4_clear_L17 : Nat → Nat → Int32 → Mem → Option Mem
  | 0, _, _, _ => none
  | fu + 1, v0, v1, S =>
    if (4 : Int32) ≤ v1 then
      F_X4_clear_L37 FU v0 (0 : Int32) S
    else
      (pgR 4 6 S v0).bind fun t8 =>
      (psI S t8 v1 (-1 : Int32)).bind fun S9 =>
      F_X4_clear_L17 fu v0 (v1 + 1) S9
set_option maxRecDepth 100000 in
theorem T_X4_clear_L17 {g : GG} {l : Launch} (hl : l.stackTraces = false) {S' : Mem}  : ∀ (fu : Nat) (v0 : Nat) (v1 : Int32) (S : Mem), F_X4_clear_L17 fu v0 v1 S = some S' → Run g l uX4_clear (fin g uX4_clear cvV S') 17 [(0, .ref v0), (1, .int v1)] [] 0 0 S := by
  intro fu
  induction fu with
  | zero =>
    intro v0 v1 S h
    cases (show none = some _ from h)
  | succ fu ih =>
    intro v0 v1 S h
    unfold F_X4_clear_L17 at h
    refine r_iload_n dX4_clear_17 rfl 1 rfl ?_
    refine r_iconst (v := (4 : Int32)) dX4_clear_18 (by decide) ?_
    refine r_icmp_ge (tgt := 35) dX4_clear_19 (by decide) (fun c7 => ?_) (fun c7 => ?_)
    · rw [if_pos c7] at h
      refine r_iconst (v := (0 : Int32)) dX4_clear_35 (by decide) ?_
      refine r_istore_n (lv' := [(1, .int ((0 : Int32))), (0, .ref v0)]) dX4_clear_36 rfl (by decide) rfl ?_
      refine r_sub [1, 0] rfl ?_
      exact T_X4_clear_L37 hl FU v0 (0 : Int32) S h
    · rw [if_neg c7] at h
      refine r_aload_n dX4_clear_22 rfl 0 rfl ?_
      obtain ⟨t8, h0, h⟩ := bd h
      refine q_getR h0 dX4_clear_23 fl4_21 rfl ?_
      refine r_iload_n dX4_clear_26 rfl 1 rfl ?_
      refine r_iconst (v := (-1 : Int32)) dX4_clear_27 (by decide) ?_
      obtain ⟨S9, h0, h⟩ := bd h
      refine q_iastore h0 dX4_clear_28 ?_
      refine r_iinc (v := v1 + 1) (lv' := [(1, .int (v1 + 1)), (0, .ref v0)]) dX4_clear_29 1 rfl rfl (by decide) rfl ?_
      refine r_goto (tgt := 17) dX4_clear_32 (by decide) ?_
      refine r_sub [1, 0] rfl ?_
      exact ih v0 (v1 + 1) S9 h

def F_X4_clear (v0 : Nat) (S : Mem) : Option Mem :=
    (ppI 4 0 S v0 (0 : Int32)).bind fun S10 =>
    (ppI 4 1 S10 v0 (0 : Int32)).bind fun S11 =>
    (ppI 4 2 S11 v0 (0 : Int32)).bind fun S12 =>
    F_X4_clear_L17 FU v0 (0 : Int32) S12
set_option maxRecDepth 100000 in
theorem T_X4_clear {g : GG} {l : Launch} (hl : l.stackTraces = false) {v0 : Nat} {S S' : Mem} (h : F_X4_clear v0 S = some S') : Call g l uX4_clear [.ref v0] S cvV S' := by
  refine call_of (by decide +kernel) hl rfl (Nat.le_of_ble_eq_true rfl) ?_
  show Run g l uX4_clear _ 0 [(0, .ref v0)] [] 0 0 S
  unfold F_X4_clear at h
  refine r_aload_n dX4_clear_0 rfl 0 rfl ?_
  refine r_iconst (v := (0 : Int32)) dX4_clear_1 (by decide) ?_
  obtain ⟨S10, h0, h⟩ := bd h
  refine q_putI h0 dX4_clear_2 fl4_31 rfl ?_
  refine r_aload_n dX4_clear_5 rfl 0 rfl ?_
  refine r_iconst (v := (0 : Int32)) dX4_clear_6 (by decide) ?_
  obtain ⟨S11, h0, h⟩ := bd h
  refine q_putI h0 dX4_clear_7 fl4_35 rfl ?_
  refine r_aload_n dX4_clear_10 rfl 0 rfl ?_
  refine r_iconst (v := (0 : Int32)) dX4_clear_11 (by decide) ?_
  obtain ⟨S12, h0, h⟩ := bd h
  refine q_putI h0 dX4_clear_12 fl4_38 rfl ?_
  refine r_iconst (v := (0 : Int32)) dX4_clear_15 (by decide) ?_
  refine r_istore_n (lv' := [(1, .int ((0 : Int32))), (0, .ref v0)]) dX4_clear_16 rfl (by decide) rfl ?_
  refine r_sub [1, 0] rfl ?_
  exact T_X4_clear_L17 hl FU v0 (0 : Int32) S12 h

def F_X3_packed_L5 : Nat → Nat → Int32 → Int32 → Int32 → Int32 → Mem → Option (Int32 × Mem)
  | 0, _, _, _, _, _, _ => none
  | fu + 1, v0, v1, v2, v3, v4, S =>
    if v2 ≤ v4 then
      some (v3, S)
    else
      (pgR 3 0 S v0).bind fun t2 =>
      (paI S t2 ((v1 - (1 : Int32)) + v4)).bind fun t3 =>
      F_X3_packed_L5 fu v0 v1 v2 ((v3 <<< ((2 : Int32) &&& 31)) ||| t3) (v4 + 1) S
set_option maxRecDepth 100000 in
theorem T_X3_packed_L5 {g : GG} {l : Launch} (hl : l.stackTraces = false) {S' : Mem} {r : Int32}  : ∀ (fu : Nat) (v0 : Nat) (v1 : Int32) (v2 : Int32) (v3 : Int32) (v4 : Int32) (S : Mem), F_X3_packed_L5 fu v0 v1 v2 v3 v4 S = some (r, S') → Run g l uX3_packed (fin g uX3_packed (cvI r) S') 5 [(0, .ref v0), (1, .int v1), (2, .int v2), (3, .int v3), (4, .int v4)] [] 0 0 S := by
  intro fu
  induction fu with
  | zero =>
    intro v0 v1 v2 v3 v4 S h
    cases (show none = some _ from h)
  | succ fu ih =>
    intro v0 v1 v2 v3 v4 S h
    unfold F_X3_packed_L5 at h
    refine r_iload dX3_packed_5 4 rfl ?_
    refine r_iload_n dX3_packed_7 rfl 2 rfl ?_
    refine r_icmp_ge (tgt := 33) dX3_packed_8 (by decide) (fun c1 => ?_) (fun c1 => ?_)
    · rw [if_pos c1] at h
      refine r_iload_n dX3_packed_33 rfl 3 rfl ?_
      cases h
      exact r_ireturn dX3_packed_34 rfl rfl (by decide) (by decide)
    · rw [if_neg c1] at h
      refine r_iload_n dX3_packed_11 rfl 3 rfl ?_
      refine r_iconst (v := (2 : Int32)) dX3_packed_12 (by decide) ?_
      refine r_ishl dX3_packed_13 ?_
      refine r_aload_n dX3_packed_14 rfl 0 rfl ?_
      obtain ⟨t2, h0, h⟩ := bd h
      refine q_getR h0 dX3_packed_15 fl3_9 rfl ?_
      refine r_iload_n dX3_packed_18 rfl 1 rfl ?_
      refine r_iconst (v := (1 : Int32)) dX3_packed_19 (by decide) ?_
      refine r_isub dX3_packed_20 ?_
      refine r_iload dX3_packed_21 4 rfl ?_
      refine r_iadd dX3_packed_23 ?_
      obtain ⟨t3, h0, h⟩ := bd h
      refine q_iaload h0 dX3_packed_24 ?_
      refine r_ior dX3_packed_25 ?_
      refine r_istore_n (lv' := [(3, .int ((v3 <<< ((2 : Int32) &&& 31)) ||| t3)), (0, .ref v0), (1, .int v1), (2, .int v2), (4, .int v4)]) dX3_packed_26 rfl (by decide) rfl ?_
      refine r_iinc (v := v4 + 1) (lv' := [(4, .int (v4 + 1)), (3, .int ((v3 <<< ((2 : Int32) &&& 31)) ||| t3)), (0, .ref v0), (1, .int v1), (2, .int v2)]) dX3_packed_27 4 rfl rfl (by decide) rfl ?_
      refine r_goto (tgt := 5) dX3_packed_30 (by decide) ?_
      refine r_sub [2, 3, 4, 1, 0] rfl ?_
      exact ih v0 v1 v2 ((v3 <<< ((2 : Int32) &&& 31)) ||| t3) (v4 + 1) S h

def F_X3_packed (v0 : Nat) (v1 : Int32) (v2 : Int32) (S : Mem) : Option (Int32 × Mem) :=
    F_X3_packed_L5 FU v0 v1 v2 (0 : Int32) (0 : Int32) S
set_option maxRecDepth 100000 in
theorem T_X3_packed {g : GG} {l : Launch} (hl : l.stackTraces = false) {v0 : Nat} {v1 : Int32} {v2 : Int32} {S S' : Mem} {r : Int32} (h : F_X3_packed v0 v1 v2 S = some (r, S')) : Call g l uX3_packed [.ref v0, .int v1, .int v2] S (cvI r) S' := by
  refine call_of (by decide +kernel) hl rfl (Nat.le_of_ble_eq_true rfl) ?_
  show Run g l uX3_packed _ 0 [(0, .ref v0), (1, .int v1), (2, .int v2)] [] 0 0 S
  unfold F_X3_packed at h
  refine r_iconst (v := (0 : Int32)) dX3_packed_0 (by decide) ?_
  refine r_istore_n (lv' := [(3, .int ((0 : Int32))), (0, .ref v0), (1, .int v1), (2, .int v2)]) dX3_packed_1 rfl (by decide) rfl ?_
  refine r_iconst (v := (0 : Int32)) dX3_packed_2 (by decide) ?_
  refine r_istore (lv' := [(4, .int ((0 : Int32))), (3, .int ((0 : Int32))), (0, .ref v0), (1, .int v1), (2, .int v2)]) dX3_packed_3 (by decide) rfl ?_
  refine r_sub [2, 3, 4, 1, 0] rfl ?_
  exact T_X3_packed_L5 hl FU v0 v1 v2 (0 : Int32) (0 : Int32) S h

def F_X4_appendAllele (v0 : Nat) (v1 : Int32) (v2 : Int32) (S : Mem) : Option Mem :=
    (pgI 4 2 S v0).bind fun t1 =>
    if (4 : Int32) ≤ t1 then
      some S
    else
      (pgR 4 3 S v0).bind fun t3 =>
      (pgI 4 2 S v0).bind fun t4 =>
      (psI S t3 t4 v1).bind fun S5 =>
      (pgR 4 4 S5 v0).bind fun t6 =>
      (pgI 4 2 S5 v0).bind fun t7 =>
      (psI S5 t6 t7 v2).bind fun S8 =>
      (pgR 4 5 S8 v0).bind fun t9 =>
      (pgI 4 2 S8 v0).bind fun t10 =>
      (psI S8 t9 t10 (0 : Int32)).bind fun S11 =>
      (pgI 4 2 S11 v0).bind fun t12 =>
      (ppI 4 2 S11 v0 (t12 + (1 : Int32))).bind fun S13 =>
      some S13
set_option maxRecDepth 100000 in
theorem T_X4_appendAllele {g : GG} {l : Launch} (hl : l.stackTraces = false) {v0 : Nat} {v1 : Int32} {v2 : Int32} {S S' : Mem} (h : F_X4_appendAllele v0 v1 v2 S = some S') : Call g l uX4_appendAllele [.ref v0, .int v1, .int v2] S cvV S' := by
  refine call_of (by decide +kernel) hl rfl (Nat.le_of_ble_eq_true rfl) ?_
  show Run g l uX4_appendAllele _ 0 [(0, .ref v0), (1, .int v1), (2, .int v2)] [] 0 0 S
  unfold F_X4_appendAllele at h
  refine r_aload_n dX4_appendAllele_0 rfl 0 rfl ?_
  obtain ⟨t1, h0, h⟩ := bd h
  refine q_getI h0 dX4_appendAllele_1 fl4_38 rfl ?_
  refine r_iconst (v := (4 : Int32)) dX4_appendAllele_4 (by decide) ?_
  refine r_icmp_ge (tgt := 48) dX4_appendAllele_5 (by decide) (fun c2 => ?_) (fun c2 => ?_)
  · rw [if_pos c2] at h
    cases h
    exact r_return dX4_appendAllele_48 rfl (by decide) (by decide)
  · rw [if_neg c2] at h
    refine r_aload_n dX4_appendAllele_8 rfl 0 rfl ?_
    obtain ⟨t3, h0, h⟩ := bd h
    refine q_getR h0 dX4_appendAllele_9 fl4_9 rfl ?_
    refine r_aload_n dX4_appendAllele_12 rfl 0 rfl ?_
    obtain ⟨t4, h0, h⟩ := bd h
    refine q_getI h0 dX4_appendAllele_13 fl4_38 rfl ?_
    refine r_iload_n dX4_appendAllele_16 rfl 1 rfl ?_
    obtain ⟨S5, h0, h⟩ := bd h
    refine q_iastore h0 dX4_appendAllele_17 ?_
    refine r_aload_n dX4_appendAllele_18 rfl 0 rfl ?_
    obtain ⟨t6, h0, h⟩ := bd h
    refine q_getR h0 dX4_appendAllele_19 fl4_15 rfl ?_
    refine r_aload_n dX4_appendAllele_22 rfl 0 rfl ?_
    obtain ⟨t7, h0, h⟩ := bd h
    refine q_getI h0 dX4_appendAllele_23 fl4_38 rfl ?_
    refine r_iload_n dX4_appendAllele_26 rfl 2 rfl ?_
    obtain ⟨S8, h0, h⟩ := bd h
    refine q_iastore h0 dX4_appendAllele_27 ?_
    refine r_aload_n dX4_appendAllele_28 rfl 0 rfl ?_
    obtain ⟨t9, h0, h⟩ := bd h
    refine q_getR h0 dX4_appendAllele_29 fl4_18 rfl ?_
    refine r_aload_n dX4_appendAllele_32 rfl 0 rfl ?_
    obtain ⟨t10, h0, h⟩ := bd h
    refine q_getI h0 dX4_appendAllele_33 fl4_38 rfl ?_
    refine r_iconst (v := (0 : Int32)) dX4_appendAllele_36 (by decide) ?_
    obtain ⟨S11, h0, h⟩ := bd h
    refine q_iastore h0 dX4_appendAllele_37 ?_
    refine r_aload_n dX4_appendAllele_38 rfl 0 rfl ?_
    refine r_dup dX4_appendAllele_39 rfl ?_
    obtain ⟨t12, h0, h⟩ := bd h
    refine q_getI h0 dX4_appendAllele_40 fl4_38 rfl ?_
    refine r_iconst (v := (1 : Int32)) dX4_appendAllele_43 (by decide) ?_
    refine r_iadd dX4_appendAllele_44 ?_
    obtain ⟨S13, h0, h⟩ := bd h
    refine q_putI h0 dX4_appendAllele_45 fl4_38 rfl ?_
    cases h
    exact r_return dX4_appendAllele_48 rfl (by decide) (by decide)

def F_X5_draft (v0 : Nat) (v1 : Int32) (v2 : Int32) (S : Mem) : Option ((Unit ⊕ String) × Mem) :=
    if v2 < (1 : Int32) then
      some (.inr "java/lang/IllegalArgumentException", S)
    else
      if v2 ≤ (8 : Int32) then
        (pgR 5 0 S v0).bind fun t3 =>
        (pk 3 S t3).bind fun _ =>
        bd2 (F_X3_covers t3 v1 v2 S) fun t5 S6 =>
        if t5 = 0 then
          some (.inr "java/lang/IllegalArgumentException", S6)
        else
          (pgR 5 2 S6 v0).bind fun t8 =>
          (pk 4 S6 t8).bind fun _ =>
          (F_X4_clear t8 S6).bind fun S11 =>
          (pgR 5 2 S11 v0).bind fun t12 =>
          (ppI 4 0 S11 t12 v1).bind fun S13 =>
          (pgR 5 2 S13 v0).bind fun t14 =>
          (pgR 5 0 S13 v0).bind fun t15 =>
          (pk 3 S13 t15).bind fun _ =>
          bd2 (F_X3_packed t15 v1 v2 S13) fun t17 S18 =>
          (pk 4 S18 t14).bind fun _ =>
          (F_X4_appendAllele t14 t17 v2 S18).bind fun S21 =>
          (ppZ 5 3 S21 v0 (1 : Int32)).bind fun S22 =>
          some (.inl (), S22)
      else
        some (.inr "java/lang/IllegalArgumentException", S)
set_option maxRecDepth 100000 in
theorem T_X5_draft {g : GG} {l : Launch} (hl : l.stackTraces = false) {v0 : Nat} {v1 : Int32} {v2 : Int32} {S S' : Mem} {r : Unit ⊕ String} (h : F_X5_draft v0 v1 v2 S = some (r, S')) : Call g l uX5_draft [.ref v0, .int v1, .int v2] S (cxV r) S' := by
  refine call_of (by decide +kernel) hl rfl (Nat.le_of_ble_eq_true rfl) ?_
  show Run g l uX5_draft _ 0 [(0, .ref v0), (1, .int v1), (2, .int v2)] [] 0 0 S
  unfold F_X5_draft at h
  refine r_iload_n dX5_draft_0 rfl 2 rfl ?_
  refine r_iconst (v := (1 : Int32)) dX5_draft_1 (by decide) ?_
  refine r_icmp_lt (tgt := 11) dX5_draft_2 (by decide) (fun c1 => ?_) (fun c1 => ?_)
  · rw [if_pos c1] at h
    cases h
    exact r_throwS (text := "length is not 1 .. 8") tw_54_58 rfl (by decide) dX5_draft_11 dX5_draft_14 dX5_draft_15 dX5_draft_17 dX5_draft_20 rfl rfl (by decide) (Nat.le_of_ble_eq_true rfl) (by decide) (by decide)
  · rw [if_neg c1] at h
    refine r_iload_n dX5_draft_5 rfl 2 rfl ?_
    refine r_bipush (v := (8 : Int32)) dX5_draft_6 (by decide) ?_
    refine r_icmp_le (tgt := 21) dX5_draft_8 (by decide) (fun c2 => ?_) (fun c2 => ?_)
    · rw [if_pos c2] at h
      refine r_aload_n dX5_draft_21 rfl 0 rfl ?_
      obtain ⟨t3, h0, h⟩ := bd h
      refine q_getR h0 dX5_draft_22 fl5_10 rfl ?_
      refine r_iload_n dX5_draft_25 rfl 1 rfl ?_
      refine r_iload_n dX5_draft_26 rfl 2 rfl ?_
      obtain ⟨z4, hk, h⟩ := bd h
      obtain ⟨t5, S6, h0, h⟩ := bd2_s h
      refine r_invV (As := [.int v1, .int v2]) (st := []) dX5_draft_27 lv5_81 (by unfold RM; decide) (Nat.le_of_ble_eq_true rfl) rfl rfl (pk_ok hk) (T_X3_covers hl h0) ?_
      refine r_if_ne (tgt := 43) dX5_draft_30 (by decide) (fun c7 => ?_) (fun c7 => ?_)
      · rw [if_neg c7] at h
        refine r_aload_n dX5_draft_43 rfl 0 rfl ?_
        obtain ⟨t8, h0, h⟩ := bd h
        refine q_getR h0 dX5_draft_44 fl5_26 rfl ?_
        obtain ⟨z9, hk, h⟩ := bd h
        obtain ⟨S11, h0, h⟩ := bd h
        refine r_invV (As := []) (st := []) dX5_draft_47 lv5_87 (by unfold RM; decide) (Nat.le_of_ble_eq_true rfl) rfl rfl (pk_ok hk) (T_X4_clear hl h0) ?_
        refine r_aload_n dX5_draft_50 rfl 0 rfl ?_
        obtain ⟨t12, h0, h⟩ := bd h
        refine q_getR h0 dX5_draft_51 fl5_26 rfl ?_
        refine r_iload_n dX5_draft_54 rfl 1 rfl ?_
        obtain ⟨S13, h0, h⟩ := bd h
        refine q_putI h0 dX5_draft_55 fl5_90 rfl ?_
        refine r_aload_n dX5_draft_58 rfl 0 rfl ?_
        obtain ⟨t14, h0, h⟩ := bd h
        refine q_getR h0 dX5_draft_59 fl5_26 rfl ?_
        refine r_aload_n dX5_draft_62 rfl 0 rfl ?_
        obtain ⟨t15, h0, h⟩ := bd h
        refine q_getR h0 dX5_draft_63 fl5_10 rfl ?_
        refine r_iload_n dX5_draft_66 rfl 1 rfl ?_
        refine r_iload_n dX5_draft_67 rfl 2 rfl ?_
        obtain ⟨z16, hk, h⟩ := bd h
        obtain ⟨t17, S18, h0, h⟩ := bd2_s h
        refine r_invV (As := [.int v1, .int v2]) (st := [.ref t14]) dX5_draft_68 lv5_93 (by unfold RM; decide) (Nat.le_of_ble_eq_true rfl) rfl rfl (pk_ok hk) (T_X3_packed hl h0) ?_
        refine r_iload_n dX5_draft_71 rfl 2 rfl ?_
        obtain ⟨z19, hk, h⟩ := bd h
        obtain ⟨S21, h0, h⟩ := bd h
        refine r_invV (As := [.int t17, .int v2]) (st := []) dX5_draft_72 lv5_97 (by unfold RM; decide) (Nat.le_of_ble_eq_true rfl) rfl rfl (pk_ok hk) (T_X4_appendAllele hl h0) ?_
        refine r_aload_n dX5_draft_75 rfl 0 rfl ?_
        refine r_iconst (v := (1 : Int32)) dX5_draft_76 (by decide) ?_
        obtain ⟨S22, h0, h⟩ := bd h
        refine q_putZ h0 dX5_draft_77 fl5_30 rfl ?_
        cases h
        exact r_return dX5_draft_80 rfl (by decide) (by decide)
      · rw [if_pos c7] at h
        cases h
        exact r_throwS (text := "the reference does not have these places") tw_54_58 rfl (by decide) dX5_draft_33 dX5_draft_36 dX5_draft_37 dX5_draft_39 dX5_draft_42 rfl rfl (by decide) (Nat.le_of_ble_eq_true rfl) (by decide) (by decide)
    · rw [if_neg c2] at h
      cases h
      exact r_throwS (text := "length is not 1 .. 8") tw_54_58 rfl (by decide) dX5_draft_11 dX5_draft_14 dX5_draft_15 dX5_draft_17 dX5_draft_20 rfl rfl (by decide) (Nat.le_of_ble_eq_true rfl) (by decide) (by decide)

def F_X5_lowBases (v0 : Int32) (S : Mem) : Option (Int32 × Mem) :=
    some (((1 : Int32) <<< (((2 : Int32) * v0) &&& 31)) - (1 : Int32), S)
set_option maxRecDepth 100000 in
theorem T_X5_lowBases {g : GG} {l : Launch} (hl : l.stackTraces = false) {v0 : Int32} {S S' : Mem} {r : Int32} (h : F_X5_lowBases v0 S = some (r, S')) : Call g l uX5_lowBases [.int v0] S (cvI r) S' := by
  refine call_of (by decide +kernel) hl rfl (Nat.le_of_ble_eq_true rfl) ?_
  show Run g l uX5_lowBases _ 0 [(0, .int v0)] [] 0 0 S
  unfold F_X5_lowBases at h
  refine r_iconst (v := (1 : Int32)) dX5_lowBases_0 (by decide) ?_
  refine r_iconst (v := (2 : Int32)) dX5_lowBases_1 (by decide) ?_
  refine r_iload_n dX5_lowBases_2 rfl 0 rfl ?_
  refine r_imul dX5_lowBases_3 ?_
  refine r_ishl dX5_lowBases_4 ?_
  refine r_iconst (v := (1 : Int32)) dX5_lowBases_5 (by decide) ?_
  refine r_isub dX5_lowBases_6 ?_
  cases h
  exact r_ireturn dX5_lowBases_7 rfl rfl (by decide) (by decide)

def F_X4_find_J32 (K2 : Nat → Int32 → Int32 → Int32 → Mem → Option (Int32 × Mem)) (v0 : Nat) (v1 : Int32) (v2 : Int32) (v3 : Int32) (S : Mem) : Option (Int32 × Mem) :=
    K2 v0 v1 v2 (v3 + 1) S
set_option maxRecDepth 100000 in
theorem T_X4_find_J32 {g : GG} {l : Launch} (hl : l.stackTraces = false) {S' : Mem} {r : Int32}  {K2 : Nat → Int32 → Int32 → Int32 → Mem → Option (Int32 × Mem)} (hK2 : ∀ (v0 : Nat) (v1 : Int32) (v2 : Int32) (v3 : Int32) (S : Mem), K2 v0 v1 v2 v3 S = some (r, S') → Run g l uX4_find (fin g uX4_find (cvI r) S') 2 [(0, .ref v0), (1, .int v1), (2, .int v2), (3, .int v3)] [] 0 0 S) : ∀ (v0 : Nat) (v1 : Int32) (v2 : Int32) (v3 : Int32) (S : Mem), F_X4_find_J32 K2 v0 v1 v2 v3 S = some (r, S') → Run g l uX4_find (fin g uX4_find (cvI r) S') 32 [(0, .ref v0), (1, .int v1), (2, .int v2), (3, .int v3)] [] 0 0 S := by
  intro v0 v1 v2 v3 S h
  unfold F_X4_find_J32 at h
  refine r_iinc (v := v3 + 1) (lv' := [(3, .int (v3 + 1)), (0, .ref v0), (1, .int v1), (2, .int v2)]) dX4_find_32 3 rfl rfl (by decide) rfl ?_
  refine r_goto (tgt := 2) dX4_find_35 (by decide) ?_
  refine r_sub [1, 2, 3, 0] rfl ?_
  exact hK2 v0 v1 v2 (v3 + 1) S h

def F_X4_find_L2 : Nat → Nat → Int32 → Int32 → Int32 → Mem → Option (Int32 × Mem)
  | 0, _, _, _, _, _ => none
  | fu + 1, v0, v1, v2, v3, S =>
    (pgI 4 2 S v0).bind fun t1 =>
    if t1 ≤ v3 then
      some ((-1 : Int32), S)
    else
      (pgR 4 3 S v0).bind fun t3 =>
      (paI S t3 v3).bind fun t4 =>
      if t4 = v1 then
        (pgR 4 4 S v0).bind fun t6 =>
        (paI S t6 v3).bind fun t7 =>
        if t7 = v2 then
          some (v3, S)
        else
          F_X4_find_J32 (F_X4_find_L2 fu) v0 v1 v2 v3 S
      else
        F_X4_find_J32 (F_X4_find_L2 fu) v0 v1 v2 v3 S
set_option maxRecDepth 100000 in
theorem T_X4_find_L2 {g : GG} {l : Launch} (hl : l.stackTraces = false) {S' : Mem} {r : Int32}  : ∀ (fu : Nat) (v0 : Nat) (v1 : Int32) (v2 : Int32) (v3 : Int32) (S : Mem), F_X4_find_L2 fu v0 v1 v2 v3 S = some (r, S') → Run g l uX4_find (fin g uX4_find (cvI r) S') 2 [(0, .ref v0), (1, .int v1), (2, .int v2), (3, .int v3)] [] 0 0 S := by
  intro fu
  induction fu with
  | zero =>
    intro v0 v1 v2 v3 S h
    cases (show none = some _ from h)
  | succ fu ih =>
    intro v0 v1 v2 v3 S h
    unfold F_X4_find_L2 at h
    refine r_iload_n dX4_find_2 rfl 3 rfl ?_
    refine r_aload_n dX4_find_3 rfl 0 rfl ?_
    obtain ⟨t1, h0, h⟩ := bd h
    refine q_getI h0 dX4_find_4 fl4_38 rfl ?_
    refine r_icmp_ge (tgt := 38) dX4_find_7 (by decide) (fun c2 => ?_) (fun c2 => ?_)
    · rw [if_pos c2] at h
      refine r_iconst (v := (-1 : Int32)) dX4_find_38 (by decide) ?_
      cases h
      exact r_ireturn dX4_find_39 rfl rfl (by decide) (by decide)
    · rw [if_neg c2] at h
      refine r_aload_n dX4_find_10 rfl 0 rfl ?_
      obtain ⟨t3, h0, h⟩ := bd h
      refine q_getR h0 dX4_find_11 fl4_9 rfl ?_
      refine r_iload_n dX4_find_14 rfl 3 rfl ?_
      obtain ⟨t4, h0, h⟩ := bd h
      refine q_iaload h0 dX4_find_15 ?_
      refine r_iload_n dX4_find_16 rfl 1 rfl ?_
      refine r_icmp_ne (tgt := 32) dX4_find_17 (by decide) (fun c5 => ?_) (fun c5 => ?_)
      · rw [if_neg c5] at h
        exact T_X4_find_J32 hl (fun v0 v1 v2 v3 S h => ih v0 v1 v2 v3 S h) v0 v1 v2 v3 S h
      · rw [if_pos c5] at h
        refine r_aload_n dX4_find_20 rfl 0 rfl ?_
        obtain ⟨t6, h0, h⟩ := bd h
        refine q_getR h0 dX4_find_21 fl4_15 rfl ?_
        refine r_iload_n dX4_find_24 rfl 3 rfl ?_
        obtain ⟨t7, h0, h⟩ := bd h
        refine q_iaload h0 dX4_find_25 ?_
        refine r_iload_n dX4_find_26 rfl 2 rfl ?_
        refine r_icmp_ne (tgt := 32) dX4_find_27 (by decide) (fun c8 => ?_) (fun c8 => ?_)
        · rw [if_neg c8] at h
          exact T_X4_find_J32 hl (fun v0 v1 v2 v3 S h => ih v0 v1 v2 v3 S h) v0 v1 v2 v3 S h
        · rw [if_pos c8] at h
          refine r_iload_n dX4_find_30 rfl 3 rfl ?_
          cases h
          exact r_ireturn dX4_find_31 rfl rfl (by decide) (by decide)

def F_X4_find (v0 : Nat) (v1 : Int32) (v2 : Int32) (S : Mem) : Option (Int32 × Mem) :=
    F_X4_find_L2 FU v0 v1 v2 (0 : Int32) S
set_option maxRecDepth 100000 in
theorem T_X4_find {g : GG} {l : Launch} (hl : l.stackTraces = false) {v0 : Nat} {v1 : Int32} {v2 : Int32} {S S' : Mem} {r : Int32} (h : F_X4_find v0 v1 v2 S = some (r, S')) : Call g l uX4_find [.ref v0, .int v1, .int v2] S (cvI r) S' := by
  refine call_of (by decide +kernel) hl rfl (Nat.le_of_ble_eq_true rfl) ?_
  show Run g l uX4_find _ 0 [(0, .ref v0), (1, .int v1), (2, .int v2)] [] 0 0 S
  unfold F_X4_find at h
  refine r_iconst (v := (0 : Int32)) dX4_find_0 (by decide) ?_
  refine r_istore_n (lv' := [(3, .int ((0 : Int32))), (0, .ref v0), (1, .int v1), (2, .int v2)]) dX4_find_1 rfl (by decide) rfl ?_
  refine r_sub [1, 2, 3, 0] rfl ?_
  exact T_X4_find_L2 hl FU v0 v1 v2 (0 : Int32) S h

def F_X5_allele (v0 : Nat) (v1 : Int64) (v3 : Int32) (S : Mem) : Option ((Int32 ⊕ String) × Mem) :=
    if v3 < (1 : Int32) then
      some (.inr "java/lang/IllegalArgumentException", S)
    else
      if v3 ≤ (8 : Int32) then
        (pgI 5 3 S v0).bind fun t3 =>
        if t3 = 0 then
          some (.inr "java/lang/IllegalStateException", S)
        else
          (pgR 5 2 S v0).bind fun t5 =>
          (pgI 4 2 S t5).bind fun t6 =>
          if t6 = (4 : Int32) then
            some (.inr "java/lang/IllegalStateException", S)
          else
            bd2 (F_X5_lowBases v3 S) fun t8 S9 =>
            (pgR 5 2 S9 v0).bind fun t10 =>
            (pk 4 S9 t10).bind fun _ =>
            bd2 (F_X4_find t10 ((v1 &&& t8.toInt64).toInt32) v3 S9) fun t12 S13 =>
            if t12 < 0 then
              (pgR 5 2 S13 v0).bind fun t15 =>
              (pk 4 S13 t15).bind fun _ =>
              (F_X4_appendAllele t15 ((v1 &&& t8.toInt64).toInt32) v3 S13).bind fun S18 =>
              (pgR 5 2 S18 v0).bind fun t19 =>
              (pgI 4 2 S18 t19).bind fun t20 =>
              some (.inl (t20 - (1 : Int32)), S18)
            else
              some (.inr "java/lang/IllegalStateException", S13)
      else
        some (.inr "java/lang/IllegalArgumentException", S)
set_option maxRecDepth 100000 in
theorem T_X5_allele {g : GG} {l : Launch} (hl : l.stackTraces = false) {v0 : Nat} {v1 : Int64} {v3 : Int32} {S S' : Mem} {r : Int32 ⊕ String} (h : F_X5_allele v0 v1 v3 S = some (r, S')) : Call g l uX5_allele [.ref v0, .long v1, .int v3] S (cxI r) S' := by
  refine call_of (by decide +kernel) hl rfl (Nat.le_of_ble_eq_true rfl) ?_
  show Run g l uX5_allele _ 0 [(0, .ref v0), (1, .long v1), (3, .int v3)] [] 0 0 S
  unfold F_X5_allele at h
  refine r_iload_n dX5_allele_0 rfl 2 rfl ?_
  refine r_iconst (v := (1 : Int32)) dX5_allele_1 (by decide) ?_
  refine r_icmp_lt (tgt := 11) dX5_allele_2 (by decide) (fun c1 => ?_) (fun c1 => ?_)
  · rw [if_pos c1] at h
    cases h
    exact r_throwS (text := "n is not 1 .. 8") tw_54_58 rfl (by decide) dX5_allele_11 dX5_allele_14 dX5_allele_15 dX5_allele_17 dX5_allele_20 rfl rfl (by decide) (Nat.le_of_ble_eq_true rfl) (by decide) (by decide)
  · rw [if_neg c1] at h
    refine r_iload_n dX5_allele_5 rfl 2 rfl ?_
    refine r_bipush (v := (8 : Int32)) dX5_allele_6 (by decide) ?_
    refine r_icmp_le (tgt := 21) dX5_allele_8 (by decide) (fun c2 => ?_) (fun c2 => ?_)
    · rw [if_pos c2] at h
      refine r_aload_n dX5_allele_21 rfl 0 rfl ?_
      obtain ⟨t3, h0, h⟩ := bd h
      refine q_getI h0 dX5_allele_22 fl5_30 rfl ?_
      refine r_if_ne (tgt := 38) dX5_allele_25 (by decide) (fun c4 => ?_) (fun c4 => ?_)
      · rw [if_neg c4] at h
        refine r_aload_n dX5_allele_38 rfl 0 rfl ?_
        obtain ⟨t5, h0, h⟩ := bd h
        refine q_getR h0 dX5_allele_39 fl5_26 rfl ?_
        obtain ⟨t6, h0, h⟩ := bd h
        refine q_getI h0 dX5_allele_42 fl5_105 rfl ?_
        refine r_iconst (v := (4 : Int32)) dX5_allele_45 (by decide) ?_
        refine r_icmp_ne (tgt := 59) dX5_allele_46 (by decide) (fun c7 => ?_) (fun c7 => ?_)
        · rw [if_neg c7] at h
          refine r_lload_n dX5_allele_59 rfl 1 rfl ?_
          refine r_iload_n dX5_allele_60 rfl 2 rfl ?_
          obtain ⟨t8, S9, h0, h⟩ := bd2_s h
          refine r_invS (As := [.int v3]) (st := [.long v1]) dX5_allele_61 ls5_110 (by unfold RM; decide) (Nat.le_of_ble_eq_true rfl) rfl rfl (T_X5_lowBases hl h0) ?_
          refine r_i2l dX5_allele_64 ?_
          refine r_land dX5_allele_65 ?_
          refine r_l2i dX5_allele_66 ?_
          refine r_istore (lv' := [(4, .int ((v1 &&& t8.toInt64).toInt32)), (0, .ref v0), (1, .long v1), (3, .int v3)]) dX5_allele_67 (by decide) rfl ?_
          refine r_aload_n dX5_allele_69 rfl 1 rfl ?_
          obtain ⟨t10, h0, h⟩ := bd h
          refine q_getR h0 dX5_allele_70 fl5_26 rfl ?_
          refine r_iload dX5_allele_73 0 rfl ?_
          refine r_iload_n dX5_allele_75 rfl 3 rfl ?_
          obtain ⟨z11, hk, h⟩ := bd h
          obtain ⟨t12, S13, h0, h⟩ := bd2_s h
          refine r_invV (As := [.int ((v1 &&& t8.toInt64).toInt32), .int v3]) (st := []) dX5_allele_76 lv5_114 (by unfold RM; decide) (Nat.le_of_ble_eq_true rfl) rfl rfl (pk_ok hk) (T_X4_find hl h0) ?_
          refine r_if_lt (tgt := 92) dX5_allele_79 (by decide) (fun c14 => ?_) (fun c14 => ?_)
          · rw [if_pos c14] at h
            refine r_aload_n dX5_allele_92 rfl 1 rfl ?_
            obtain ⟨t15, h0, h⟩ := bd h
            refine q_getR h0 dX5_allele_93 fl5_26 rfl ?_
            refine r_iload dX5_allele_96 0 rfl ?_
            refine r_iload_n dX5_allele_98 rfl 3 rfl ?_
            obtain ⟨z16, hk, h⟩ := bd h
            obtain ⟨S18, h0, h⟩ := bd h
            refine r_invV (As := [.int ((v1 &&& t8.toInt64).toInt32), .int v3]) (st := []) dX5_allele_99 lv5_97 (by unfold RM; decide) (Nat.le_of_ble_eq_true rfl) rfl rfl (pk_ok hk) (T_X4_appendAllele hl h0) ?_
            refine r_aload_n dX5_allele_102 rfl 1 rfl ?_
            obtain ⟨t19, h0, h⟩ := bd h
            refine q_getR h0 dX5_allele_103 fl5_26 rfl ?_
            obtain ⟨t20, h0, h⟩ := bd h
            refine q_getI h0 dX5_allele_106 fl5_105 rfl ?_
            refine r_iconst (v := (1 : Int32)) dX5_allele_109 (by decide) ?_
            refine r_isub dX5_allele_110 ?_
            cases h
            exact r_ireturn dX5_allele_111 rfl rfl (by decide) (by decide)
          · rw [if_neg c14] at h
            cases h
            exact r_throwS (text := "the draft has that allele") tw_65_69 rfl (by decide) dX5_allele_82 dX5_allele_85 dX5_allele_86 dX5_allele_88 dX5_allele_91 rfl rfl (by decide) (Nat.le_of_ble_eq_true rfl) (by decide) (by decide)
        · rw [if_pos c7] at h
          cases h
          exact r_throwS (text := "the draft has four alleles") tw_65_69 rfl (by decide) dX5_allele_49 dX5_allele_52 dX5_allele_53 dX5_allele_55 dX5_allele_58 rfl rfl (by decide) (Nat.le_of_ble_eq_true rfl) (by decide) (by decide)
      · rw [if_pos c4] at h
        cases h
        exact r_throwS (text := "there is no draft") tw_65_69 rfl (by decide) dX5_allele_28 dX5_allele_31 dX5_allele_32 dX5_allele_34 dX5_allele_37 rfl rfl (by decide) (Nat.le_of_ble_eq_true rfl) (by decide) (by decide)
    · rw [if_neg c2] at h
      cases h
      exact r_throwS (text := "n is not 1 .. 8") tw_54_58 rfl (by decide) dX5_allele_11 dX5_allele_14 dX5_allele_15 dX5_allele_17 dX5_allele_20 rfl rfl (by decide) (Nat.le_of_ble_eq_true rfl) (by decide) (by decide)

def F_X4_hasAllele (v0 : Nat) (v1 : Int32) (S : Mem) : Option (Int32 × Mem) :=
    if v1 < 0 then
      some ((0 : Int32), S)
    else
      (pgI 4 2 S v0).bind fun t2 =>
      if t2 ≤ v1 then
        some ((0 : Int32), S)
      else
        some ((1 : Int32), S)
set_option maxRecDepth 100000 in
theorem T_X4_hasAllele {g : GG} {l : Launch} (hl : l.stackTraces = false) {v0 : Nat} {v1 : Int32} {S S' : Mem} {r : Int32} (h : F_X4_hasAllele v0 v1 S = some (r, S')) : Call g l uX4_hasAllele [.ref v0, .int v1] S (cvI r) S' := by
  refine call_of (by decide +kernel) hl rfl (Nat.le_of_ble_eq_true rfl) ?_
  show Run g l uX4_hasAllele _ 0 [(0, .ref v0), (1, .int v1)] [] 0 0 S
  unfold F_X4_hasAllele at h
  refine r_iload_n dX4_hasAllele_0 rfl 1 rfl ?_
  refine r_if_lt (tgt := 16) dX4_hasAllele_1 (by decide) (fun c1 => ?_) (fun c1 => ?_)
  · rw [if_pos c1] at h
    refine r_iconst (v := (0 : Int32)) dX4_hasAllele_16 (by decide) ?_
    cases h
    exact r_ireturn dX4_hasAllele_17 rfl (by decide) (by decide) (by decide)
  · rw [if_neg c1] at h
    refine r_iload_n dX4_hasAllele_4 rfl 1 rfl ?_
    refine r_aload_n dX4_hasAllele_5 rfl 0 rfl ?_
    obtain ⟨t2, h0, h⟩ := bd h
    refine q_getI h0 dX4_hasAllele_6 fl4_38 rfl ?_
    refine r_icmp_ge (tgt := 16) dX4_hasAllele_9 (by decide) (fun c3 => ?_) (fun c3 => ?_)
    · rw [if_pos c3] at h
      refine r_iconst (v := (0 : Int32)) dX4_hasAllele_16 (by decide) ?_
      cases h
      exact r_ireturn dX4_hasAllele_17 rfl (by decide) (by decide) (by decide)
    · rw [if_neg c3] at h
      refine r_iconst (v := (1 : Int32)) dX4_hasAllele_12 (by decide) ?_
      refine r_goto (tgt := 17) dX4_hasAllele_13 (by decide) ?_
      cases h
      exact r_ireturn dX4_hasAllele_17 rfl (by decide) (by decide) (by decide)

def F_X5_isWithin (v0 : Int32) (v1 : Int32) (S : Mem) : Option (Int32 × Mem) :=
    if v0 < 0 then
      some ((0 : Int32), S)
    else
      if v1 < v0 then
        some ((0 : Int32), S)
      else
        some ((1 : Int32), S)
set_option maxRecDepth 100000 in
theorem T_X5_isWithin {g : GG} {l : Launch} (hl : l.stackTraces = false) {v0 : Int32} {v1 : Int32} {S S' : Mem} {r : Int32} (h : F_X5_isWithin v0 v1 S = some (r, S')) : Call g l uX5_isWithin [.int v0, .int v1] S (cvI r) S' := by
  refine call_of (by decide +kernel) hl rfl (Nat.le_of_ble_eq_true rfl) ?_
  show Run g l uX5_isWithin _ 0 [(0, .int v0), (1, .int v1)] [] 0 0 S
  unfold F_X5_isWithin at h
  refine r_iload_n dX5_isWithin_0 rfl 0 rfl ?_
  refine r_if_lt (tgt := 13) dX5_isWithin_1 (by decide) (fun c1 => ?_) (fun c1 => ?_)
  · rw [if_pos c1] at h
    refine r_iconst (v := (0 : Int32)) dX5_isWithin_13 (by decide) ?_
    cases h
    exact r_ireturn dX5_isWithin_14 rfl (by decide) (by decide) (by decide)
  · rw [if_neg c1] at h
    refine r_iload_n dX5_isWithin_4 rfl 0 rfl ?_
    refine r_iload_n dX5_isWithin_5 rfl 1 rfl ?_
    refine r_icmp_gt (tgt := 13) dX5_isWithin_6 (by decide) (fun c2 => ?_) (fun c2 => ?_)
    · rw [if_pos c2] at h
      refine r_iconst (v := (0 : Int32)) dX5_isWithin_13 (by decide) ?_
      cases h
      exact r_ireturn dX5_isWithin_14 rfl (by decide) (by decide) (by decide)
    · rw [if_neg c2] at h
      refine r_iconst (v := (1 : Int32)) dX5_isWithin_9 (by decide) ?_
      refine r_goto (tgt := 14) dX5_isWithin_10 (by decide) ?_
      cases h
      exact r_ireturn dX5_isWithin_14 rfl (by decide) (by decide) (by decide)

def F_X5_depth (v0 : Nat) (v1 : Int32) (v2 : Int32) (v3 : Int32) (S : Mem) : Option ((Unit ⊕ String) × Mem) :=
    (pgI 5 3 S v0).bind fun t1 =>
    if t1 = 0 then
      some (.inr "java/lang/IllegalArgumentException", S)
    else
      (pgR 5 2 S v0).bind fun t3 =>
      (pk 4 S t3).bind fun _ =>
      bd2 (F_X4_hasAllele t3 v1 S) fun t5 S6 =>
      if t5 = 0 then
        some (.inr "java/lang/IllegalArgumentException", S6)
      else
        bd2 (F_X5_isWithin v2 (9999 : Int32) S6) fun t8 S9 =>
        if t8 = 0 then
          some (.inr "java/lang/IllegalArgumentException", S9)
        else
          bd2 (F_X5_isWithin v3 (8000 : Int32) S9) fun t11 S12 =>
          if t11 = 0 then
            some (.inr "java/lang/IllegalArgumentException", S12)
          else
            (pgR 5 2 S12 v0).bind fun t14 =>
            (pgR 4 5 S12 t14).bind fun t15 =>
            (psI S12 t15 v1 v2).bind fun S16 =>
            (pgR 5 2 S16 v0).bind fun t17 =>
            (ppI 4 1 S16 t17 v3).bind fun S18 =>
            some (.inl (), S18)
set_option maxRecDepth 100000 in
theorem T_X5_depth {g : GG} {l : Launch} (hl : l.stackTraces = false) {v0 : Nat} {v1 : Int32} {v2 : Int32} {v3 : Int32} {S S' : Mem} {r : Unit ⊕ String} (h : F_X5_depth v0 v1 v2 v3 S = some (r, S')) : Call g l uX5_depth [.ref v0, .int v1, .int v2, .int v3] S (cxV r) S' := by
  refine call_of (by decide +kernel) hl rfl (Nat.le_of_ble_eq_true rfl) ?_
  show Run g l uX5_depth _ 0 [(0, .ref v0), (1, .int v1), (2, .int v2), (3, .int v3)] [] 0 0 S
  unfold F_X5_depth at h
  refine r_aload_n dX5_depth_0 rfl 0 rfl ?_
  obtain ⟨t1, h0, h⟩ := bd h
  refine q_getI h0 dX5_depth_1 fl5_30 rfl ?_
  refine r_if_eq (tgt := 18) dX5_depth_4 (by decide) (fun c2 => ?_) (fun c2 => ?_)
  · rw [if_pos c2] at h
    cases h
    exact r_throwS (text := "there is no draft or no such allele") tw_54_58 rfl (by decide) dX5_depth_18 dX5_depth_21 dX5_depth_22 dX5_depth_24 dX5_depth_27 rfl rfl (by decide) (Nat.le_of_ble_eq_true rfl) (by decide) (by decide)
  · rw [if_neg c2] at h
    refine r_aload_n dX5_depth_7 rfl 0 rfl ?_
    obtain ⟨t3, h0, h⟩ := bd h
    refine q_getR h0 dX5_depth_8 fl5_26 rfl ?_
    refine r_iload_n dX5_depth_11 rfl 1 rfl ?_
    obtain ⟨z4, hk, h⟩ := bd h
    obtain ⟨t5, S6, h0, h⟩ := bd2_s h
    refine r_invV (As := [.int v1]) (st := []) dX5_depth_12 lv5_119 (by unfold RM; decide) (Nat.le_of_ble_eq_true rfl) rfl rfl (pk_ok hk) (T_X4_hasAllele hl h0) ?_
    refine r_if_ne (tgt := 28) dX5_depth_15 (by decide) (fun c7 => ?_) (fun c7 => ?_)
    · rw [if_neg c7] at h
      refine r_iload_n dX5_depth_28 rfl 2 rfl ?_
      refine r_sipush (v := (9999 : Int32)) dX5_depth_29 (by decide) ?_
      obtain ⟨t8, S9, h0, h⟩ := bd2_s h
      refine r_invS (As := [.int v2, .int ((9999 : Int32))]) (st := []) dX5_depth_32 ls5_125 (by unfold RM; decide) (Nat.le_of_ble_eq_true rfl) rfl rfl (T_X5_isWithin hl h0) ?_
      refine r_if_eq (tgt := 48) dX5_depth_35 (by decide) (fun c10 => ?_) (fun c10 => ?_)
      · rw [if_pos c10] at h
        cases h
        exact r_throwS (text := "the depth or the quality is out of its bounds") tw_54_58 rfl (by decide) dX5_depth_48 dX5_depth_51 dX5_depth_52 dX5_depth_54 dX5_depth_57 rfl rfl (by decide) (Nat.le_of_ble_eq_true rfl) (by decide) (by decide)
      · rw [if_neg c10] at h
        refine r_iload_n dX5_depth_38 rfl 3 rfl ?_
        refine r_sipush (v := (8000 : Int32)) dX5_depth_39 (by decide) ?_
        obtain ⟨t11, S12, h0, h⟩ := bd2_s h
        refine r_invS (As := [.int v3, .int ((8000 : Int32))]) (st := []) dX5_depth_42 ls5_125 (by unfold RM; decide) (Nat.le_of_ble_eq_true rfl) rfl rfl (T_X5_isWithin hl h0) ?_
        refine r_if_ne (tgt := 58) dX5_depth_45 (by decide) (fun c13 => ?_) (fun c13 => ?_)
        · rw [if_neg c13] at h
          refine r_aload_n dX5_depth_58 rfl 0 rfl ?_
          obtain ⟨t14, h0, h⟩ := bd h
          refine q_getR h0 dX5_depth_59 fl5_26 rfl ?_
          obtain ⟨t15, h0, h⟩ := bd h
          refine q_getR h0 dX5_depth_62 fl5_130 rfl ?_
          refine r_iload_n dX5_depth_65 rfl 1 rfl ?_
          refine r_iload_n dX5_depth_66 rfl 2 rfl ?_
          obtain ⟨S16, h0, h⟩ := bd h
          refine q_iastore h0 dX5_depth_67 ?_
          refine r_aload_n dX5_depth_68 rfl 0 rfl ?_
          obtain ⟨t17, h0, h⟩ := bd h
          refine q_getR h0 dX5_depth_69 fl5_26 rfl ?_
          refine r_iload_n dX5_depth_72 rfl 3 rfl ?_
          obtain ⟨S18, h0, h⟩ := bd h
          refine q_putI h0 dX5_depth_73 fl5_134 rfl ?_
          cases h
          exact r_return dX5_depth_76 rfl (by decide) (by decide)
        · rw [if_pos c13] at h
          cases h
          exact r_throwS (text := "the depth or the quality is out of its bounds") tw_54_58 rfl (by decide) dX5_depth_48 dX5_depth_51 dX5_depth_52 dX5_depth_54 dX5_depth_57 rfl rfl (by decide) (Nat.le_of_ble_eq_true rfl) (by decide) (by decide)
    · rw [if_pos c7] at h
      cases h
      exact r_throwS (text := "there is no draft or no such allele") tw_54_58 rfl (by decide) dX5_depth_18 dX5_depth_21 dX5_depth_22 dX5_depth_24 dX5_depth_27 rfl rfl (by decide) (Nat.le_of_ble_eq_true rfl) (by decide) (by decide)

def F_X5_isSample (v0 : Int32) (S : Mem) : Option (Int32 × Mem) :=
    if v0 < 0 then
      some ((0 : Int32), S)
    else
      if (2 : Int32) ≤ v0 then
        some ((0 : Int32), S)
      else
        some ((1 : Int32), S)
set_option maxRecDepth 100000 in
theorem T_X5_isSample {g : GG} {l : Launch} (hl : l.stackTraces = false) {v0 : Int32} {S S' : Mem} {r : Int32} (h : F_X5_isSample v0 S = some (r, S')) : Call g l uX5_isSample [.int v0] S (cvI r) S' := by
  refine call_of (by decide +kernel) hl rfl (Nat.le_of_ble_eq_true rfl) ?_
  show Run g l uX5_isSample _ 0 [(0, .int v0)] [] 0 0 S
  unfold F_X5_isSample at h
  refine r_iload_n dX5_isSample_0 rfl 0 rfl ?_
  refine r_if_lt (tgt := 13) dX5_isSample_1 (by decide) (fun c1 => ?_) (fun c1 => ?_)
  · rw [if_pos c1] at h
    refine r_iconst (v := (0 : Int32)) dX5_isSample_13 (by decide) ?_
    cases h
    exact r_ireturn dX5_isSample_14 rfl (by decide) (by decide) (by decide)
  · rw [if_neg c1] at h
    refine r_iload_n dX5_isSample_4 rfl 0 rfl ?_
    refine r_iconst (v := (2 : Int32)) dX5_isSample_5 (by decide) ?_
    refine r_icmp_ge (tgt := 13) dX5_isSample_6 (by decide) (fun c2 => ?_) (fun c2 => ?_)
    · rw [if_pos c2] at h
      refine r_iconst (v := (0 : Int32)) dX5_isSample_13 (by decide) ?_
      cases h
      exact r_ireturn dX5_isSample_14 rfl (by decide) (by decide) (by decide)
    · rw [if_neg c2] at h
      refine r_iconst (v := (1 : Int32)) dX5_isSample_9 (by decide) ?_
      refine r_goto (tgt := 14) dX5_isSample_10 (by decide) ?_
      cases h
      exact r_ireturn dX5_isSample_14 rfl (by decide) (by decide) (by decide)

def F_X4_allowsInGenotype_J13  (S : Mem) : Option (Int32 × Mem) :=
    some ((1 : Int32), S)
set_option maxRecDepth 100000 in
theorem T_X4_allowsInGenotype_J13 {g : GG} {l : Launch} (hl : l.stackTraces = false) {S' : Mem} {r : Int32}  : ∀  (S : Mem), F_X4_allowsInGenotype_J13  S = some (r, S') → Run g l uX4_allowsInGenotype (fin g uX4_allowsInGenotype (cvI r) S') 13 [] [] 0 0 S := by
  intro  S h
  unfold F_X4_allowsInGenotype_J13 at h
  refine r_iconst (v := (1 : Int32)) dX4_allowsInGenotype_13 (by decide) ?_
  refine r_goto (tgt := 18) dX4_allowsInGenotype_14 (by decide) ?_
  cases h
  exact r_ireturn dX4_allowsInGenotype_18 rfl (by decide) (by decide) (by decide)

def F_X4_allowsInGenotype (v0 : Nat) (v1 : Int32) (S : Mem) : Option (Int32 × Mem) :=
    if v1 = (-1 : Int32) then
      F_X4_allowsInGenotype_J13  S
    else
      (pk 4 S v0).bind fun _ =>
      bd2 (F_X4_hasAllele v0 v1 S) fun t3 S4 =>
      if t3 = 0 then
        some ((0 : Int32), S4)
      else
        F_X4_allowsInGenotype_J13  S4
set_option maxRecDepth 100000 in
theorem T_X4_allowsInGenotype {g : GG} {l : Launch} (hl : l.stackTraces = false) {v0 : Nat} {v1 : Int32} {S S' : Mem} {r : Int32} (h : F_X4_allowsInGenotype v0 v1 S = some (r, S')) : Call g l uX4_allowsInGenotype [.ref v0, .int v1] S (cvI r) S' := by
  refine call_of (by decide +kernel) hl rfl (Nat.le_of_ble_eq_true rfl) ?_
  show Run g l uX4_allowsInGenotype _ 0 [(0, .ref v0), (1, .int v1)] [] 0 0 S
  unfold F_X4_allowsInGenotype at h
  refine r_iload_n dX4_allowsInGenotype_0 rfl 1 rfl ?_
  refine r_iconst (v := (-1 : Int32)) dX4_allowsInGenotype_1 (by decide) ?_
  refine r_icmp_eq (tgt := 13) dX4_allowsInGenotype_2 (by decide) (fun c1 => ?_) (fun c1 => ?_)
  · rw [if_pos c1] at h
    refine r_sub [] rfl ?_
    exact T_X4_allowsInGenotype_J13 hl  S h
  · rw [if_neg c1] at h
    refine r_aload_n dX4_allowsInGenotype_5 rfl 0 rfl ?_
    refine r_iload_n dX4_allowsInGenotype_6 rfl 1 rfl ?_
    obtain ⟨z2, hk, h⟩ := bd h
    obtain ⟨t3, S4, h0, h⟩ := bd2_s h
    refine r_invV (As := [.int v1]) (st := []) dX4_allowsInGenotype_7 lv4_51 (by unfold RM; decide) (Nat.le_of_ble_eq_true rfl) rfl rfl (pk_ok hk) (T_X4_hasAllele hl h0) ?_
    refine r_if_eq (tgt := 17) dX4_allowsInGenotype_10 (by decide) (fun c5 => ?_) (fun c5 => ?_)
    · rw [if_pos c5] at h
      refine r_iconst (v := (0 : Int32)) dX4_allowsInGenotype_17 (by decide) ?_
      cases h
      exact r_ireturn dX4_allowsInGenotype_18 rfl (by decide) (by decide) (by decide)
    · rw [if_neg c5] at h
      refine r_sub [] rfl ?_
      exact T_X4_allowsInGenotype_J13 hl  S4 h

def F_X5_genotype (v0 : Nat) (v1 : Int32) (v2 : Int32) (v3 : Int32) (v4 : Int32) (S : Mem) : Option ((Unit ⊕ String) × Mem) :=
    (pgI 5 3 S v0).bind fun t1 =>
    if t1 = 0 then
      some (.inr "java/lang/IllegalArgumentException", S)
    else
      bd2 (F_X5_isSample v1 S) fun t3 S4 =>
      if t3 = 0 then
        some (.inr "java/lang/IllegalArgumentException", S4)
      else
        (pgR 5 2 S4 v0).bind fun t6 =>
        (pk 4 S4 t6).bind fun _ =>
        bd2 (F_X4_allowsInGenotype t6 v2 S4) fun t8 S9 =>
        if t8 = 0 then
          some (.inr "java/lang/IllegalArgumentException", S9)
        else
          (pgR 5 2 S9 v0).bind fun t11 =>
          (pk 4 S9 t11).bind fun _ =>
          bd2 (F_X4_allowsInGenotype t11 v3 S9) fun t13 S14 =>
          if t13 = 0 then
            some (.inr "java/lang/IllegalArgumentException", S14)
          else
            (pgR 5 2 S14 v0).bind fun t16 =>
            (pgR 4 6 S14 t16).bind fun t17 =>
            (psI S14 t17 ((2 : Int32) * v1) v2).bind fun S18 =>
            (pgR 5 2 S18 v0).bind fun t19 =>
            (pgR 4 6 S18 t19).bind fun t20 =>
            (psI S18 t20 (((2 : Int32) * v1) + (1 : Int32)) v3).bind fun S21 =>
            (pgR 5 2 S21 v0).bind fun t22 =>
            (pgR 4 7 S21 t22).bind fun t23 =>
            (psZ S21 t23 v1 v4).bind fun S24 =>
            some (.inl (), S24)
set_option maxRecDepth 100000 in
theorem T_X5_genotype {g : GG} {l : Launch} (hl : l.stackTraces = false) {v0 : Nat} {v1 : Int32} {v2 : Int32} {v3 : Int32} {v4 : Int32} {S S' : Mem} {r : Unit ⊕ String} (h : F_X5_genotype v0 v1 v2 v3 v4 S = some (r, S')) : Call g l uX5_genotype [.ref v0, .int v1, .int v2, .int v3, .int v4] S (cxV r) S' := by
  refine call_of (by decide +kernel) hl rfl (Nat.le_of_ble_eq_true rfl) ?_
  show Run g l uX5_genotype _ 0 [(0, .ref v0), (1, .int v1), (2, .int v2), (3, .int v3), (4, .int v4)] [] 0 0 S
  unfold F_X5_genotype at h
  refine r_aload_n dX5_genotype_0 rfl 0 rfl ?_
  obtain ⟨t1, h0, h⟩ := bd h
  refine q_getI h0 dX5_genotype_1 fl5_30 rfl ?_
  refine r_if_eq (tgt := 14) dX5_genotype_4 (by decide) (fun c2 => ?_) (fun c2 => ?_)
  · rw [if_pos c2] at h
    cases h
    exact r_throwS (text := "there is no draft or no such sample") tw_54_58 rfl (by decide) dX5_genotype_14 dX5_genotype_17 dX5_genotype_18 dX5_genotype_20 dX5_genotype_23 rfl rfl (by decide) (Nat.le_of_ble_eq_true rfl) (by decide) (by decide)
  · rw [if_neg c2] at h
    refine r_iload_n dX5_genotype_7 rfl 1 rfl ?_
    obtain ⟨t3, S4, h0, h⟩ := bd2_s h
    refine r_invS (As := [.int v1]) (st := []) dX5_genotype_8 ls5_137 (by unfold RM; decide) (Nat.le_of_ble_eq_true rfl) rfl rfl (T_X5_isSample hl h0) ?_
    refine r_if_ne (tgt := 24) dX5_genotype_11 (by decide) (fun c5 => ?_) (fun c5 => ?_)
    · rw [if_neg c5] at h
      refine r_aload_n dX5_genotype_24 rfl 0 rfl ?_
      obtain ⟨t6, h0, h⟩ := bd h
      refine q_getR h0 dX5_genotype_25 fl5_26 rfl ?_
      refine r_iload_n dX5_genotype_28 rfl 2 rfl ?_
      obtain ⟨z7, hk, h⟩ := bd h
      obtain ⟨t8, S9, h0, h⟩ := bd2_s h
      refine r_invV (As := [.int v2]) (st := []) dX5_genotype_29 lv5_142 (by unfold RM; decide) (Nat.le_of_ble_eq_true rfl) rfl rfl (pk_ok hk) (T_X4_allowsInGenotype hl h0) ?_
      refine r_if_eq (tgt := 46) dX5_genotype_32 (by decide) (fun c10 => ?_) (fun c10 => ?_)
      · rw [if_pos c10] at h
        cases h
        exact r_throwS (text := "no such allele") tw_54_58 rfl (by decide) dX5_genotype_46 dX5_genotype_49 dX5_genotype_50 dX5_genotype_52 dX5_genotype_55 rfl rfl (by decide) (Nat.le_of_ble_eq_true rfl) (by decide) (by decide)
      · rw [if_neg c10] at h
        refine r_aload_n dX5_genotype_35 rfl 0 rfl ?_
        obtain ⟨t11, h0, h⟩ := bd h
        refine q_getR h0 dX5_genotype_36 fl5_26 rfl ?_
        refine r_iload_n dX5_genotype_39 rfl 3 rfl ?_
        obtain ⟨z12, hk, h⟩ := bd h
        obtain ⟨t13, S14, h0, h⟩ := bd2_s h
        refine r_invV (As := [.int v3]) (st := []) dX5_genotype_40 lv5_142 (by unfold RM; decide) (Nat.le_of_ble_eq_true rfl) rfl rfl (pk_ok hk) (T_X4_allowsInGenotype hl h0) ?_
        refine r_if_ne (tgt := 56) dX5_genotype_43 (by decide) (fun c15 => ?_) (fun c15 => ?_)
        · rw [if_neg c15] at h
          refine r_aload_n dX5_genotype_56 rfl 0 rfl ?_
          obtain ⟨t16, h0, h⟩ := bd h
          refine q_getR h0 dX5_genotype_57 fl5_26 rfl ?_
          obtain ⟨t17, h0, h⟩ := bd h
          refine q_getR h0 dX5_genotype_60 fl5_147 rfl ?_
          refine r_iconst (v := (2 : Int32)) dX5_genotype_63 (by decide) ?_
          refine r_iload_n dX5_genotype_64 rfl 1 rfl ?_
          refine r_imul dX5_genotype_65 ?_
          refine r_iload_n dX5_genotype_66 rfl 2 rfl ?_
          obtain ⟨S18, h0, h⟩ := bd h
          refine q_iastore h0 dX5_genotype_67 ?_
          refine r_aload_n dX5_genotype_68 rfl 0 rfl ?_
          obtain ⟨t19, h0, h⟩ := bd h
          refine q_getR h0 dX5_genotype_69 fl5_26 rfl ?_
          obtain ⟨t20, h0, h⟩ := bd h
          refine q_getR h0 dX5_genotype_72 fl5_147 rfl ?_
          refine r_iconst (v := (2 : Int32)) dX5_genotype_75 (by decide) ?_
          refine r_iload_n dX5_genotype_76 rfl 1 rfl ?_
          refine r_imul dX5_genotype_77 ?_
          refine r_iconst (v := (1 : Int32)) dX5_genotype_78 (by decide) ?_
          refine r_iadd dX5_genotype_79 ?_
          refine r_iload_n dX5_genotype_80 rfl 3 rfl ?_
          obtain ⟨S21, h0, h⟩ := bd h
          refine q_iastore h0 dX5_genotype_81 ?_
          refine r_aload_n dX5_genotype_82 rfl 0 rfl ?_
          obtain ⟨t22, h0, h⟩ := bd h
          refine q_getR h0 dX5_genotype_83 fl5_26 rfl ?_
          obtain ⟨t23, h0, h⟩ := bd h
          refine q_getR h0 dX5_genotype_86 fl5_150 rfl ?_
          refine r_iload_n dX5_genotype_89 rfl 1 rfl ?_
          refine r_iload dX5_genotype_90 4 rfl ?_
          obtain ⟨S24, h0, h⟩ := bd h
          refine q_bastore h0 dX5_genotype_92 ?_
          cases h
          exact r_return dX5_genotype_93 rfl (by decide) (by decide)
        · rw [if_pos c15] at h
          cases h
          exact r_throwS (text := "no such allele") tw_54_58 rfl (by decide) dX5_genotype_46 dX5_genotype_49 dX5_genotype_50 dX5_genotype_52 dX5_genotype_55 rfl rfl (by decide) (Nat.le_of_ble_eq_true rfl) (by decide) (by decide)
    · rw [if_pos c5] at h
      cases h
      exact r_throwS (text := "there is no draft or no such sample") tw_54_58 rfl (by decide) dX5_genotype_14 dX5_genotype_17 dX5_genotype_18 dX5_genotype_20 dX5_genotype_23 rfl rfl (by decide) (Nat.le_of_ble_eq_true rfl) (by decide) (by decide)

def F_X4_pairs (v0 : Nat) (S : Mem) : Option (Int32 × Mem) :=
    (pgI 4 2 S v0).bind fun t1 =>
    (pgI 4 2 S v0).bind fun t2 =>
    (pdiv (t1 * (t2 + (1 : Int32))) (2 : Int32)).bind fun t3 =>
    some (t3, S)
set_option maxRecDepth 100000 in
theorem T_X4_pairs {g : GG} {l : Launch} (hl : l.stackTraces = false) {v0 : Nat} {S S' : Mem} {r : Int32} (h : F_X4_pairs v0 S = some (r, S')) : Call g l uX4_pairs [.ref v0] S (cvI r) S' := by
  refine call_of (by decide +kernel) hl rfl (Nat.le_of_ble_eq_true rfl) ?_
  show Run g l uX4_pairs _ 0 [(0, .ref v0)] [] 0 0 S
  unfold F_X4_pairs at h
  refine r_aload_n dX4_pairs_0 rfl 0 rfl ?_
  obtain ⟨t1, h0, h⟩ := bd h
  refine q_getI h0 dX4_pairs_1 fl4_38 rfl ?_
  refine r_aload_n dX4_pairs_4 rfl 0 rfl ?_
  obtain ⟨t2, h0, h⟩ := bd h
  refine q_getI h0 dX4_pairs_5 fl4_38 rfl ?_
  refine r_iconst (v := (1 : Int32)) dX4_pairs_8 (by decide) ?_
  refine r_iadd dX4_pairs_9 ?_
  refine r_imul dX4_pairs_10 ?_
  refine r_iconst (v := (2 : Int32)) dX4_pairs_11 (by decide) ?_
  obtain ⟨t3, h0, h⟩ := bd h
  refine q_idiv h0 dX4_pairs_12 ?_
  cases h
  exact r_ireturn dX4_pairs_13 rfl rfl (by decide) (by decide)

def F_X5_likelihood (v0 : Nat) (v1 : Int32) (v2 : Int32) (v3 : Int32) (S : Mem) : Option ((Unit ⊕ String) × Mem) :=
    (pgI 5 3 S v0).bind fun t1 =>
    if t1 = 0 then
      some (.inr "java/lang/IllegalArgumentException", S)
    else
      bd2 (F_X5_isSample v1 S) fun t3 S4 =>
      if t3 = 0 then
        some (.inr "java/lang/IllegalArgumentException", S4)
      else
        if v2 < 0 then
          some (.inr "java/lang/IllegalArgumentException", S4)
        else
          (pgR 5 2 S4 v0).bind fun t7 =>
          (pk 4 S4 t7).bind fun _ =>
          bd2 (F_X4_pairs t7 S4) fun t9 S10 =>
          if v2 < t9 then
            bd2 (F_X5_isWithin v3 (999 : Int32) S10) fun t12 S13 =>
            if t12 = 0 then
              some (.inr "java/lang/IllegalArgumentException", S13)
            else
              (pgR 5 2 S13 v0).bind fun t15 =>
              (pgR 4 8 S13 t15).bind fun t16 =>
              (psI S13 t16 (((10 : Int32) * v1) + v2) v3).bind fun S17 =>
              some (.inl (), S17)
          else
            some (.inr "java/lang/IllegalArgumentException", S10)
set_option maxRecDepth 100000 in
theorem T_X5_likelihood {g : GG} {l : Launch} (hl : l.stackTraces = false) {v0 : Nat} {v1 : Int32} {v2 : Int32} {v3 : Int32} {S S' : Mem} {r : Unit ⊕ String} (h : F_X5_likelihood v0 v1 v2 v3 S = some (r, S')) : Call g l uX5_likelihood [.ref v0, .int v1, .int v2, .int v3] S (cxV r) S' := by
  refine call_of (by decide +kernel) hl rfl (Nat.le_of_ble_eq_true rfl) ?_
  show Run g l uX5_likelihood _ 0 [(0, .ref v0), (1, .int v1), (2, .int v2), (3, .int v3)] [] 0 0 S
  unfold F_X5_likelihood at h
  refine r_aload_n dX5_likelihood_0 rfl 0 rfl ?_
  obtain ⟨t1, h0, h⟩ := bd h
  refine q_getI h0 dX5_likelihood_1 fl5_30 rfl ?_
  refine r_if_eq (tgt := 14) dX5_likelihood_4 (by decide) (fun c2 => ?_) (fun c2 => ?_)
  · rw [if_pos c2] at h
    cases h
    exact r_throwS (text := "there is no draft or no such sample") tw_54_58 rfl (by decide) dX5_likelihood_14 dX5_likelihood_17 dX5_likelihood_18 dX5_likelihood_20 dX5_likelihood_23 rfl rfl (by decide) (Nat.le_of_ble_eq_true rfl) (by decide) (by decide)
  · rw [if_neg c2] at h
    refine r_iload_n dX5_likelihood_7 rfl 1 rfl ?_
    obtain ⟨t3, S4, h0, h⟩ := bd2_s h
    refine r_invS (As := [.int v1]) (st := []) dX5_likelihood_8 ls5_137 (by unfold RM; decide) (Nat.le_of_ble_eq_true rfl) rfl rfl (T_X5_isSample hl h0) ?_
    refine r_if_ne (tgt := 24) dX5_likelihood_11 (by decide) (fun c5 => ?_) (fun c5 => ?_)
    · rw [if_neg c5] at h
      refine r_iload_n dX5_likelihood_24 rfl 2 rfl ?_
      refine r_if_lt (tgt := 39) dX5_likelihood_25 (by decide) (fun c6 => ?_) (fun c6 => ?_)
      · rw [if_pos c6] at h
        cases h
        exact r_throwS (text := "no such pair") tw_54_58 rfl (by decide) dX5_likelihood_39 dX5_likelihood_42 dX5_likelihood_43 dX5_likelihood_45 dX5_likelihood_48 rfl rfl (by decide) (Nat.le_of_ble_eq_true rfl) (by decide) (by decide)
      · rw [if_neg c6] at h
        refine r_iload_n dX5_likelihood_28 rfl 2 rfl ?_
        refine r_aload_n dX5_likelihood_29 rfl 0 rfl ?_
        obtain ⟨t7, h0, h⟩ := bd h
        refine q_getR h0 dX5_likelihood_30 fl5_26 rfl ?_
        obtain ⟨z8, hk, h⟩ := bd h
        obtain ⟨t9, S10, h0, h⟩ := bd2_s h
        refine r_invV (As := []) (st := [.int v2]) dX5_likelihood_33 lv5_154 (by unfold RM; decide) (Nat.le_of_ble_eq_true rfl) rfl rfl (pk_ok hk) (T_X4_pairs hl h0) ?_
        refine r_icmp_lt (tgt := 49) dX5_likelihood_36 (by decide) (fun c11 => ?_) (fun c11 => ?_)
        · rw [if_pos c11] at h
          refine r_iload_n dX5_likelihood_49 rfl 3 rfl ?_
          refine r_sipush (v := (999 : Int32)) dX5_likelihood_50 (by decide) ?_
          obtain ⟨t12, S13, h0, h⟩ := bd2_s h
          refine r_invS (As := [.int v3, .int ((999 : Int32))]) (st := []) dX5_likelihood_53 ls5_125 (by unfold RM; decide) (Nat.le_of_ble_eq_true rfl) rfl rfl (T_X5_isWithin hl h0) ?_
          refine r_if_ne (tgt := 69) dX5_likelihood_56 (by decide) (fun c14 => ?_) (fun c14 => ?_)
          · rw [if_neg c14] at h
            refine r_aload_n dX5_likelihood_69 rfl 0 rfl ?_
            obtain ⟨t15, h0, h⟩ := bd h
            refine q_getR h0 dX5_likelihood_70 fl5_26 rfl ?_
            obtain ⟨t16, h0, h⟩ := bd h
            refine q_getR h0 dX5_likelihood_73 fl5_162 rfl ?_
            refine r_bipush (v := (10 : Int32)) dX5_likelihood_76 (by decide) ?_
            refine r_iload_n dX5_likelihood_78 rfl 1 rfl ?_
            refine r_imul dX5_likelihood_79 ?_
            refine r_iload_n dX5_likelihood_80 rfl 2 rfl ?_
            refine r_iadd dX5_likelihood_81 ?_
            refine r_iload_n dX5_likelihood_82 rfl 3 rfl ?_
            obtain ⟨S17, h0, h⟩ := bd h
            refine q_iastore h0 dX5_likelihood_83 ?_
            cases h
            exact r_return dX5_likelihood_84 rfl (by decide) (by decide)
          · rw [if_pos c14] at h
            cases h
            exact r_throwS (text := "value is not 0 .. 999") tw_54_58 rfl (by decide) dX5_likelihood_59 dX5_likelihood_62 dX5_likelihood_63 dX5_likelihood_65 dX5_likelihood_68 rfl rfl (by decide) (Nat.le_of_ble_eq_true rfl) (by decide) (by decide)
        · rw [if_neg c11] at h
          cases h
          exact r_throwS (text := "no such pair") tw_54_58 rfl (by decide) dX5_likelihood_39 dX5_likelihood_42 dX5_likelihood_43 dX5_likelihood_45 dX5_likelihood_48 rfl rfl (by decide) (Nat.le_of_ble_eq_true rfl) (by decide) (by decide)
    · rw [if_pos c5] at h
      cases h
      exact r_throwS (text := "there is no draft or no such sample") tw_54_58 rfl (by decide) dX5_likelihood_14 dX5_likelihood_17 dX5_likelihood_18 dX5_likelihood_20 dX5_likelihood_23 rfl rfl (by decide) (Nat.le_of_ble_eq_true rfl) (by decide) (by decide)

def F_X2_isFull (v0 : Nat) (S : Mem) : Option (Int32 × Mem) :=
    (pgI 2 1 S v0).bind fun t1 =>
    if t1 < (24 : Int32) then
      some ((0 : Int32), S)
    else
      some ((1 : Int32), S)
set_option maxRecDepth 100000 in
theorem T_X2_isFull {g : GG} {l : Launch} (hl : l.stackTraces = false) {v0 : Nat} {S S' : Mem} {r : Int32} (h : F_X2_isFull v0 S = some (r, S')) : Call g l uX2_isFull [.ref v0] S (cvI r) S' := by
  refine call_of (by decide +kernel) hl rfl (Nat.le_of_ble_eq_true rfl) ?_
  show Run g l uX2_isFull _ 0 [(0, .ref v0)] [] 0 0 S
  unfold F_X2_isFull at h
  refine r_aload_n dX2_isFull_0 rfl 0 rfl ?_
  obtain ⟨t1, h0, h⟩ := bd h
  refine q_getI h0 dX2_isFull_1 fl2_18 rfl ?_
  refine r_bipush (v := (24 : Int32)) dX2_isFull_4 (by decide) ?_
  refine r_icmp_lt (tgt := 13) dX2_isFull_6 (by decide) (fun c2 => ?_) (fun c2 => ?_)
  · rw [if_pos c2] at h
    refine r_iconst (v := (0 : Int32)) dX2_isFull_13 (by decide) ?_
    cases h
    exact r_ireturn dX2_isFull_14 rfl (by decide) (by decide) (by decide)
  · rw [if_neg c2] at h
    refine r_iconst (v := (1 : Int32)) dX2_isFull_9 (by decide) ?_
    refine r_goto (tgt := 14) dX2_isFull_10 (by decide) ?_
    cases h
    exact r_ireturn dX2_isFull_14 rfl (by decide) (by decide) (by decide)

def F_X2_open_L15 : Nat → Nat → Int32 → Nat → Int32 → Mem → Option (Nat × Mem)
  | 0, _, _, _, _, _ => none
  | fu + 1, v0, v1, v2, v3, S =>
    if v3 ≤ v1 then
      (pgR 2 0 S v0).bind fun t2 =>
      (psR S t2 v1 v2).bind fun S3 =>
      (pgI 2 1 S3 v0).bind fun t4 =>
      (ppI 2 1 S3 v0 (t4 + (1 : Int32))).bind fun S5 =>
      some (v2, S5)
    else
      (pgR 2 0 S v0).bind fun t6 =>
      (pgR 2 0 S v0).bind fun t7 =>
      (paR S t7 (v3 - (1 : Int32))).bind fun t8 =>
      (psR S t6 v3 t8).bind fun S9 =>
      F_X2_open_L15 fu v0 v1 v2 (v3 + (-1)) S9
set_option maxRecDepth 100000 in
theorem T_X2_open_L15 {g : GG} {l : Launch} (hl : l.stackTraces = false) {S' : Mem} {r : Nat}  : ∀ (fu : Nat) (v0 : Nat) (v1 : Int32) (v2 : Nat) (v3 : Int32) (S : Mem), F_X2_open_L15 fu v0 v1 v2 v3 S = some (r, S') → Run g l uX2_open (fin g uX2_open (cvR r) S') 15 [(0, .ref v0), (1, .int v1), (2, .ref v2), (3, .int v3)] [] 0 0 S := by
  intro fu
  induction fu with
  | zero =>
    intro v0 v1 v2 v3 S h
    cases (show none = some _ from h)
  | succ fu ih =>
    intro v0 v1 v2 v3 S h
    unfold F_X2_open_L15 at h
    refine r_iload_n dX2_open_15 rfl 3 rfl ?_
    refine r_iload_n dX2_open_16 rfl 1 rfl ?_
    refine r_icmp_le (tgt := 40) dX2_open_17 (by decide) (fun c1 => ?_) (fun c1 => ?_)
    · rw [if_pos c1] at h
      refine r_aload_n dX2_open_40 rfl 0 rfl ?_
      obtain ⟨t2, h0, h⟩ := bd h
      refine q_getR h0 dX2_open_41 fl2_11 rfl ?_
      refine r_iload_n dX2_open_44 rfl 1 rfl ?_
      refine r_aload_n dX2_open_45 rfl 2 rfl ?_
      obtain ⟨S3, h0, h⟩ := bd h
      refine q_aastore h0 dX2_open_46 ?_
      refine r_aload_n dX2_open_47 rfl 0 rfl ?_
      refine r_dup dX2_open_48 rfl ?_
      obtain ⟨t4, h0, h⟩ := bd h
      refine q_getI h0 dX2_open_49 fl2_18 rfl ?_
      refine r_iconst (v := (1 : Int32)) dX2_open_52 (by decide) ?_
      refine r_iadd dX2_open_53 ?_
      obtain ⟨S5, h0, h⟩ := bd h
      refine q_putI h0 dX2_open_54 fl2_18 rfl ?_
      refine r_aload_n dX2_open_57 rfl 2 rfl ?_
      cases h
      exact r_areturn dX2_open_58 rfl (by decide) (by decide)
    · rw [if_neg c1] at h
      refine r_aload_n dX2_open_20 rfl 0 rfl ?_
      obtain ⟨t6, h0, h⟩ := bd h
      refine q_getR h0 dX2_open_21 fl2_11 rfl ?_
      refine r_iload_n dX2_open_24 rfl 3 rfl ?_
      refine r_aload_n dX2_open_25 rfl 0 rfl ?_
      obtain ⟨t7, h0, h⟩ := bd h
      refine q_getR h0 dX2_open_26 fl2_11 rfl ?_
      refine r_iload_n dX2_open_29 rfl 3 rfl ?_
      refine r_iconst (v := (1 : Int32)) dX2_open_30 (by decide) ?_
      refine r_isub dX2_open_31 ?_
      obtain ⟨t8, h0, h⟩ := bd h
      refine q_aaload h0 dX2_open_32 ?_
      obtain ⟨S9, h0, h⟩ := bd h
      refine q_aastore h0 dX2_open_33 ?_
      refine r_iinc (v := v3 + (-1)) (lv' := [(3, .int (v3 + (-1))), (0, .ref v0), (1, .int v1), (2, .ref v2)]) dX2_open_34 3 rfl rfl (by decide) rfl ?_
      refine r_goto (tgt := 15) dX2_open_37 (by decide) ?_
      refine r_sub [1, 2, 3, 0] rfl ?_
      exact ih v0 v1 v2 (v3 + (-1)) S9 h

def F_X2_open (v0 : Nat) (v1 : Int32) (S : Mem) : Option (Nat × Mem) :=
    (pgR 2 0 S v0).bind fun t10 =>
    (pgI 2 1 S v0).bind fun t11 =>
    (paR S t10 t11).bind fun t12 =>
    (pgI 2 1 S v0).bind fun t13 =>
    F_X2_open_L15 FU v0 v1 t12 t13 S
set_option maxRecDepth 100000 in
theorem T_X2_open {g : GG} {l : Launch} (hl : l.stackTraces = false) {v0 : Nat} {v1 : Int32} {S S' : Mem} {r : Nat} (h : F_X2_open v0 v1 S = some (r, S')) : Call g l uX2_open [.ref v0, .int v1] S (cvR r) S' := by
  refine call_of (by decide +kernel) hl rfl (Nat.le_of_ble_eq_true rfl) ?_
  show Run g l uX2_open _ 0 [(0, .ref v0), (1, .int v1)] [] 0 0 S
  unfold F_X2_open at h
  refine r_aload_n dX2_open_0 rfl 0 rfl ?_
  obtain ⟨t10, h0, h⟩ := bd h
  refine q_getR h0 dX2_open_1 fl2_11 rfl ?_
  refine r_aload_n dX2_open_4 rfl 0 rfl ?_
  obtain ⟨t11, h0, h⟩ := bd h
  refine q_getI h0 dX2_open_5 fl2_18 rfl ?_
  obtain ⟨t12, h0, h⟩ := bd h
  refine q_aaload h0 dX2_open_8 ?_
  refine r_astore_n (lv' := [(2, .ref t12), (0, .ref v0), (1, .int v1)]) dX2_open_9 rfl (by decide) rfl ?_
  refine r_aload_n dX2_open_10 rfl 1 rfl ?_
  obtain ⟨t13, h0, h⟩ := bd h
  refine q_getI h0 dX2_open_11 fl2_18 rfl ?_
  refine r_istore_n (lv' := [(3, .int t13), (2, .ref t12), (0, .ref v0), (1, .int v1)]) dX2_open_14 rfl (by decide) rfl ?_
  refine r_sub [2, 3, 1, 0] rfl ?_
  exact T_X2_open_L15 hl FU v0 v1 t12 t13 S h

def F_X4_copy_L97 : Nat → Nat → Nat → Int32 → Mem → Option Mem
  | 0, _, _, _, _ => none
  | fu + 1, v0, v1, v2, S =>
    if (2 : Int32) ≤ v2 then
      some S
    else
      (pgR 4 7 S v0).bind fun t2 =>
      (pgR 4 7 S v1).bind fun t3 =>
      (paZ S t3 v2).bind fun t4 =>
      (psZ S t2 v2 t4).bind fun S5 =>
      F_X4_copy_L97 fu v0 v1 (v2 + 1) S5
set_option maxRecDepth 100000 in
theorem T_X4_copy_L97 {g : GG} {l : Launch} (hl : l.stackTraces = false) {S' : Mem}  : ∀ (fu : Nat) (v0 : Nat) (v1 : Nat) (v2 : Int32) (S : Mem), F_X4_copy_L97 fu v0 v1 v2 S = some S' → Run g l uX4_copy (fin g uX4_copy cvV S') 97 [(0, .ref v0), (1, .ref v1), (2, .int v2)] [] 0 0 S := by
  intro fu
  induction fu with
  | zero =>
    intro v0 v1 v2 S h
    cases (show none = some _ from h)
  | succ fu ih =>
    intro v0 v1 v2 S h
    unfold F_X4_copy_L97 at h
    refine r_iload_n dX4_copy_97 rfl 2 rfl ?_
    refine r_iconst (v := (2 : Int32)) dX4_copy_98 (by decide) ?_
    refine r_icmp_ge (tgt := 120) dX4_copy_99 (by decide) (fun c1 => ?_) (fun c1 => ?_)
    · rw [if_pos c1] at h
      cases h
      exact r_return dX4_copy_120 rfl (by decide) (by decide)
    · rw [if_neg c1] at h
      refine r_aload_n dX4_copy_102 rfl 0 rfl ?_
      obtain ⟨t2, h0, h⟩ := bd h
      refine q_getR h0 dX4_copy_103 fl4_24 rfl ?_
      refine r_iload_n dX4_copy_106 rfl 2 rfl ?_
      refine r_aload_n dX4_copy_107 rfl 1 rfl ?_
      obtain ⟨t3, h0, h⟩ := bd h
      refine q_getR h0 dX4_copy_108 fl4_24 rfl ?_
      refine r_iload_n dX4_copy_111 rfl 2 rfl ?_
      obtain ⟨t4, h0, h⟩ := bd h
      refine q_baload h0 dX4_copy_112 ?_
      obtain ⟨S5, h0, h⟩ := bd h
      refine q_bastore h0 dX4_copy_113 ?_
      refine r_iinc (v := v2 + 1) (lv' := [(2, .int (v2 + 1)), (0, .ref v0), (1, .ref v1)]) dX4_copy_114 2 rfl rfl (by decide) rfl ?_
      refine r_goto (tgt := 97) dX4_copy_117 (by decide) ?_
      refine r_sub [1, 2, 0] rfl ?_
      exact ih v0 v1 (v2 + 1) S5 h

def F_X4_copy (v0 : Nat) (v1 : Nat) (S : Mem) : Option Mem :=
    (pgI 4 0 S v1).bind fun t6 =>
    (ppI 4 0 S v0 t6).bind fun S7 =>
    (pgI 4 1 S7 v1).bind fun t8 =>
    (ppI 4 1 S7 v0 t8).bind fun S9 =>
    (pgI 4 2 S9 v1).bind fun t10 =>
    (ppI 4 2 S9 v0 t10).bind fun S11 =>
    (pgR 4 3 S11 v1).bind fun t12 =>
    (pgR 4 3 S11 v0).bind fun t13 =>
    (pcp S11 t12 (0 : Int32) t13 (0 : Int32) (4 : Int32)).bind fun S14 =>
    (pgR 4 4 S14 v1).bind fun t15 =>
    (pgR 4 4 S14 v0).bind fun t16 =>
    (pcp S14 t15 (0 : Int32) t16 (0 : Int32) (4 : Int32)).bind fun S17 =>
    (pgR 4 5 S17 v1).bind fun t18 =>
    (pgR 4 5 S17 v0).bind fun t19 =>
    (pcp S17 t18 (0 : Int32) t19 (0 : Int32) (4 : Int32)).bind fun S20 =>
    (pgR 4 6 S20 v1).bind fun t21 =>
    (pgR 4 6 S20 v0).bind fun t22 =>
    (pcp S20 t21 (0 : Int32) t22 (0 : Int32) (4 : Int32)).bind fun S23 =>
    (pgR 4 8 S23 v1).bind fun t24 =>
    (pgR 4 8 S23 v0).bind fun t25 =>
    (pcp S23 t24 (0 : Int32) t25 (0 : Int32) (20 : Int32)).bind fun S26 =>
    F_X4_copy_L97 FU v0 v1 (0 : Int32) S26
set_option maxRecDepth 100000 in
theorem T_X4_copy {g : GG} {l : Launch} (hl : l.stackTraces = false) {v0 : Nat} {v1 : Nat} {S S' : Mem} (h : F_X4_copy v0 v1 S = some S') : Call g l uX4_copy [.ref v0, .ref v1] S cvV S' := by
  refine call_of (by decide +kernel) hl rfl (Nat.le_of_ble_eq_true rfl) ?_
  show Run g l uX4_copy _ 0 [(0, .ref v0), (1, .ref v1)] [] 0 0 S
  unfold F_X4_copy at h
  refine r_aload_n dX4_copy_0 rfl 0 rfl ?_
  refine r_aload_n dX4_copy_1 rfl 1 rfl ?_
  obtain ⟨t6, h0, h⟩ := bd h
  refine q_getI h0 dX4_copy_2 fl4_31 rfl ?_
  obtain ⟨S7, h0, h⟩ := bd h
  refine q_putI h0 dX4_copy_5 fl4_31 rfl ?_
  refine r_aload_n dX4_copy_8 rfl 0 rfl ?_
  refine r_aload_n dX4_copy_9 rfl 1 rfl ?_
  obtain ⟨t8, h0, h⟩ := bd h
  refine q_getI h0 dX4_copy_10 fl4_35 rfl ?_
  obtain ⟨S9, h0, h⟩ := bd h
  refine q_putI h0 dX4_copy_13 fl4_35 rfl ?_
  refine r_aload_n dX4_copy_16 rfl 0 rfl ?_
  refine r_aload_n dX4_copy_17 rfl 1 rfl ?_
  obtain ⟨t10, h0, h⟩ := bd h
  refine q_getI h0 dX4_copy_18 fl4_38 rfl ?_
  obtain ⟨S11, h0, h⟩ := bd h
  refine q_putI h0 dX4_copy_21 fl4_38 rfl ?_
  refine r_aload_n dX4_copy_24 rfl 1 rfl ?_
  obtain ⟨t12, h0, h⟩ := bd h
  refine q_getR h0 dX4_copy_25 fl4_9 rfl ?_
  refine r_iconst (v := (0 : Int32)) dX4_copy_28 (by decide) ?_
  refine r_aload_n dX4_copy_29 rfl 0 rfl ?_
  obtain ⟨t13, h0, h⟩ := bd h
  refine q_getR h0 dX4_copy_30 fl4_9 rfl ?_
  refine r_iconst (v := (0 : Int32)) dX4_copy_33 (by decide) ?_
  refine r_iconst (v := (4 : Int32)) dX4_copy_34 (by decide) ?_
  obtain ⟨S14, h0, h⟩ := bd h
  refine q_copy h0 dX4_copy_35 wy4_45 (by decide) (Nat.le_of_ble_eq_true rfl) ?_
  refine r_aload_n dX4_copy_38 rfl 1 rfl ?_
  obtain ⟨t15, h0, h⟩ := bd h
  refine q_getR h0 dX4_copy_39 fl4_15 rfl ?_
  refine r_iconst (v := (0 : Int32)) dX4_copy_42 (by decide) ?_
  refine r_aload_n dX4_copy_43 rfl 0 rfl ?_
  obtain ⟨t16, h0, h⟩ := bd h
  refine q_getR h0 dX4_copy_44 fl4_15 rfl ?_
  refine r_iconst (v := (0 : Int32)) dX4_copy_47 (by decide) ?_
  refine r_iconst (v := (4 : Int32)) dX4_copy_48 (by decide) ?_
  obtain ⟨S17, h0, h⟩ := bd h
  refine q_copy h0 dX4_copy_49 wy4_45 (by decide) (Nat.le_of_ble_eq_true rfl) ?_
  refine r_aload_n dX4_copy_52 rfl 1 rfl ?_
  obtain ⟨t18, h0, h⟩ := bd h
  refine q_getR h0 dX4_copy_53 fl4_18 rfl ?_
  refine r_iconst (v := (0 : Int32)) dX4_copy_56 (by decide) ?_
  refine r_aload_n dX4_copy_57 rfl 0 rfl ?_
  obtain ⟨t19, h0, h⟩ := bd h
  refine q_getR h0 dX4_copy_58 fl4_18 rfl ?_
  refine r_iconst (v := (0 : Int32)) dX4_copy_61 (by decide) ?_
  refine r_iconst (v := (4 : Int32)) dX4_copy_62 (by decide) ?_
  obtain ⟨S20, h0, h⟩ := bd h
  refine q_copy h0 dX4_copy_63 wy4_45 (by decide) (Nat.le_of_ble_eq_true rfl) ?_
  refine r_aload_n dX4_copy_66 rfl 1 rfl ?_
  obtain ⟨t21, h0, h⟩ := bd h
  refine q_getR h0 dX4_copy_67 fl4_21 rfl ?_
  refine r_iconst (v := (0 : Int32)) dX4_copy_70 (by decide) ?_
  refine r_aload_n dX4_copy_71 rfl 0 rfl ?_
  obtain ⟨t22, h0, h⟩ := bd h
  refine q_getR h0 dX4_copy_72 fl4_21 rfl ?_
  refine r_iconst (v := (0 : Int32)) dX4_copy_75 (by decide) ?_
  refine r_iconst (v := (4 : Int32)) dX4_copy_76 (by decide) ?_
  obtain ⟨S23, h0, h⟩ := bd h
  refine q_copy h0 dX4_copy_77 wy4_45 (by decide) (Nat.le_of_ble_eq_true rfl) ?_
  refine r_aload_n dX4_copy_80 rfl 1 rfl ?_
  obtain ⟨t24, h0, h⟩ := bd h
  refine q_getR h0 dX4_copy_81 fl4_28 rfl ?_
  refine r_iconst (v := (0 : Int32)) dX4_copy_84 (by decide) ?_
  refine r_aload_n dX4_copy_85 rfl 0 rfl ?_
  obtain ⟨t25, h0, h⟩ := bd h
  refine q_getR h0 dX4_copy_86 fl4_28 rfl ?_
  refine r_iconst (v := (0 : Int32)) dX4_copy_89 (by decide) ?_
  refine r_bipush (v := (20 : Int32)) dX4_copy_90 (by decide) ?_
  obtain ⟨S26, h0, h⟩ := bd h
  refine q_copy h0 dX4_copy_92 wy4_45 (by decide) (Nat.le_of_ble_eq_true rfl) ?_
  refine r_iconst (v := (0 : Int32)) dX4_copy_95 (by decide) ?_
  refine r_istore_n (lv' := [(2, .int ((0 : Int32))), (0, .ref v0), (1, .ref v1)]) dX4_copy_96 rfl (by decide) rfl ?_
  refine r_sub [1, 2, 0] rfl ?_
  exact T_X4_copy_L97 hl FU v0 v1 (0 : Int32) S26 h

def F_X2_insert_J32 (v0 : Nat) (v1 : Nat) (v2 : Int32) (S : Mem) : Option (Int32 × Mem) :=
    (pk 2 S v0).bind fun _ =>
    bd2 (F_X2_open v0 v2 S) fun t2 S3 =>
    (pk 4 S3 t2).bind fun _ =>
    (F_X4_copy t2 v1 S3).bind fun S6 =>
    some (v2, S6)
set_option maxRecDepth 100000 in
theorem T_X2_insert_J32 {g : GG} {l : Launch} (hl : l.stackTraces = false) {S' : Mem} {r : Int32}  : ∀ (v0 : Nat) (v1 : Nat) (v2 : Int32) (S : Mem), F_X2_insert_J32 v0 v1 v2 S = some (r, S') → Run g l uX2_insert (fin g uX2_insert (cvI r) S') 32 [(0, .ref v0), (1, .ref v1), (2, .int v2)] [] 0 0 S := by
  intro v0 v1 v2 S h
  unfold F_X2_insert_J32 at h
  refine r_aload_n dX2_insert_32 rfl 0 rfl ?_
  refine r_iload_n dX2_insert_33 rfl 2 rfl ?_
  obtain ⟨z1, hk, h⟩ := bd h
  obtain ⟨t2, S3, h0, h⟩ := bd2_s h
  refine r_invV (As := [.int v2]) (st := []) dX2_insert_34 lv2_25 (by unfold RM; decide) (Nat.le_of_ble_eq_true rfl) rfl rfl (pk_ok hk) (T_X2_open hl h0) ?_
  refine r_aload_n dX2_insert_37 rfl 1 rfl ?_
  obtain ⟨z4, hk, h⟩ := bd h
  obtain ⟨S6, h0, h⟩ := bd h
  refine r_invV (As := [.ref v1]) (st := []) dX2_insert_38 lv2_29 (by unfold RM; decide) (Nat.le_of_ble_eq_true rfl) rfl rfl (pk_ok hk) (T_X4_copy hl h0) ?_
  refine r_iload_n dX2_insert_41 rfl 2 rfl ?_
  cases h
  exact r_ireturn dX2_insert_42 rfl rfl (by decide) (by decide)

def F_X2_insert_L2 : Nat → Nat → Nat → Int32 → Mem → Option (Int32 × Mem)
  | 0, _, _, _, _ => none
  | fu + 1, v0, v1, v2, S =>
    (pgI 2 1 S v0).bind fun t7 =>
    if t7 ≤ v2 then
      F_X2_insert_J32 v0 v1 v2 S
    else
      (pgR 2 0 S v0).bind fun t9 =>
      (paR S t9 v2).bind fun t10 =>
      (pgI 4 0 S t10).bind fun t11 =>
      (pgI 4 0 S v1).bind fun t12 =>
      if t12 < t11 then
        F_X2_insert_J32 v0 v1 v2 S
      else
        F_X2_insert_L2 fu v0 v1 (v2 + 1) S
set_option maxRecDepth 100000 in
theorem T_X2_insert_L2 {g : GG} {l : Launch} (hl : l.stackTraces = false) {S' : Mem} {r : Int32}  : ∀ (fu : Nat) (v0 : Nat) (v1 : Nat) (v2 : Int32) (S : Mem), F_X2_insert_L2 fu v0 v1 v2 S = some (r, S') → Run g l uX2_insert (fin g uX2_insert (cvI r) S') 2 [(0, .ref v0), (1, .ref v1), (2, .int v2)] [] 0 0 S := by
  intro fu
  induction fu with
  | zero =>
    intro v0 v1 v2 S h
    cases (show none = some _ from h)
  | succ fu ih =>
    intro v0 v1 v2 S h
    unfold F_X2_insert_L2 at h
    refine r_iload_n dX2_insert_2 rfl 2 rfl ?_
    refine r_aload_n dX2_insert_3 rfl 0 rfl ?_
    obtain ⟨t7, h0, h⟩ := bd h
    refine q_getI h0 dX2_insert_4 fl2_18 rfl ?_
    refine r_icmp_ge (tgt := 32) dX2_insert_7 (by decide) (fun c8 => ?_) (fun c8 => ?_)
    · rw [if_pos c8] at h
      exact T_X2_insert_J32 hl v0 v1 v2 S h
    · rw [if_neg c8] at h
      refine r_aload_n dX2_insert_10 rfl 0 rfl ?_
      obtain ⟨t9, h0, h⟩ := bd h
      refine q_getR h0 dX2_insert_11 fl2_11 rfl ?_
      refine r_iload_n dX2_insert_14 rfl 2 rfl ?_
      obtain ⟨t10, h0, h⟩ := bd h
      refine q_aaload h0 dX2_insert_15 ?_
      obtain ⟨t11, h0, h⟩ := bd h
      refine q_getI h0 dX2_insert_16 fl2_22 rfl ?_
      refine r_aload_n dX2_insert_19 rfl 1 rfl ?_
      obtain ⟨t12, h0, h⟩ := bd h
      refine q_getI h0 dX2_insert_20 fl2_22 rfl ?_
      refine r_icmp_gt (tgt := 32) dX2_insert_23 (by decide) (fun c13 => ?_) (fun c13 => ?_)
      · rw [if_pos c13] at h
        exact T_X2_insert_J32 hl v0 v1 v2 S h
      · rw [if_neg c13] at h
        refine r_iinc (v := v2 + 1) (lv' := [(2, .int (v2 + 1)), (0, .ref v0), (1, .ref v1)]) dX2_insert_26 2 rfl rfl (by decide) rfl ?_
        refine r_goto (tgt := 2) dX2_insert_29 (by decide) ?_
        refine r_sub [1, 2, 0] rfl ?_
        exact ih v0 v1 (v2 + 1) S h

def F_X2_insert (v0 : Nat) (v1 : Nat) (S : Mem) : Option (Int32 × Mem) :=
    F_X2_insert_L2 FU v0 v1 (0 : Int32) S
set_option maxRecDepth 100000 in
theorem T_X2_insert {g : GG} {l : Launch} (hl : l.stackTraces = false) {v0 : Nat} {v1 : Nat} {S S' : Mem} {r : Int32} (h : F_X2_insert v0 v1 S = some (r, S')) : Call g l uX2_insert [.ref v0, .ref v1] S (cvI r) S' := by
  refine call_of (by decide +kernel) hl rfl (Nat.le_of_ble_eq_true rfl) ?_
  show Run g l uX2_insert _ 0 [(0, .ref v0), (1, .ref v1)] [] 0 0 S
  unfold F_X2_insert at h
  refine r_iconst (v := (0 : Int32)) dX2_insert_0 (by decide) ?_
  refine r_istore_n (lv' := [(2, .int ((0 : Int32))), (0, .ref v0), (1, .ref v1)]) dX2_insert_1 rfl (by decide) rfl ?_
  refine r_sub [1, 2, 0] rfl ?_
  exact T_X2_insert_L2 hl FU v0 v1 (0 : Int32) S h

def F_X5_add (v0 : Nat) (S : Mem) : Option ((Int32 ⊕ String) × Mem) :=
    (pgI 5 3 S v0).bind fun t1 =>
    if t1 = 0 then
      some (.inr "java/lang/IllegalStateException", S)
    else
      (pgR 5 2 S v0).bind fun t3 =>
      (pgI 4 2 S t3).bind fun t4 =>
      if (2 : Int32) ≤ t4 then
        (pgR 5 1 S v0).bind fun t6 =>
        (pk 2 S t6).bind fun _ =>
        bd2 (F_X2_isFull t6 S) fun t8 S9 =>
        if t8 = 0 then
          (ppZ 5 3 S9 v0 (0 : Int32)).bind fun S11 =>
          (pgR 5 1 S11 v0).bind fun t12 =>
          (pgR 5 2 S11 v0).bind fun t13 =>
          (pk 2 S11 t12).bind fun _ =>
          bd2 (F_X2_insert t12 t13 S11) fun t15 S16 =>
          some (.inl t15, S16)
        else
          some (.inr "java/lang/IllegalStateException", S9)
      else
        some (.inr "java/lang/IllegalStateException", S)
set_option maxRecDepth 100000 in
theorem T_X5_add {g : GG} {l : Launch} (hl : l.stackTraces = false) {v0 : Nat} {S S' : Mem} {r : Int32 ⊕ String} (h : F_X5_add v0 S = some (r, S')) : Call g l uX5_add [.ref v0] S (cxI r) S' := by
  refine call_of (by decide +kernel) hl rfl (Nat.le_of_ble_eq_true rfl) ?_
  show Run g l uX5_add _ 0 [(0, .ref v0)] [] 0 0 S
  unfold F_X5_add at h
  refine r_aload_n dX5_add_0 rfl 0 rfl ?_
  obtain ⟨t1, h0, h⟩ := bd h
  refine q_getI h0 dX5_add_1 fl5_30 rfl ?_
  refine r_if_ne (tgt := 17) dX5_add_4 (by decide) (fun c2 => ?_) (fun c2 => ?_)
  · rw [if_neg c2] at h
    refine r_aload_n dX5_add_17 rfl 0 rfl ?_
    obtain ⟨t3, h0, h⟩ := bd h
    refine q_getR h0 dX5_add_18 fl5_26 rfl ?_
    obtain ⟨t4, h0, h⟩ := bd h
    refine q_getI h0 dX5_add_21 fl5_105 rfl ?_
    refine r_iconst (v := (2 : Int32)) dX5_add_24 (by decide) ?_
    refine r_icmp_ge (tgt := 38) dX5_add_25 (by decide) (fun c5 => ?_) (fun c5 => ?_)
    · rw [if_pos c5] at h
      refine r_aload_n dX5_add_38 rfl 0 rfl ?_
      obtain ⟨t6, h0, h⟩ := bd h
      refine q_getR h0 dX5_add_39 fl5_19 rfl ?_
      obtain ⟨z7, hk, h⟩ := bd h
      obtain ⟨t8, S9, h0, h⟩ := bd2_s h
      refine r_invV (As := []) (st := []) dX5_add_42 lv5_167 (by unfold RM; decide) (Nat.le_of_ble_eq_true rfl) rfl rfl (pk_ok hk) (T_X2_isFull hl h0) ?_
      refine r_if_eq (tgt := 58) dX5_add_45 (by decide) (fun c10 => ?_) (fun c10 => ?_)
      · rw [if_pos c10] at h
        refine r_aload_n dX5_add_58 rfl 0 rfl ?_
        refine r_iconst (v := (0 : Int32)) dX5_add_59 (by decide) ?_
        obtain ⟨S11, h0, h⟩ := bd h
        refine q_putZ h0 dX5_add_60 fl5_30 rfl ?_
        refine r_aload_n dX5_add_63 rfl 0 rfl ?_
        obtain ⟨t12, h0, h⟩ := bd h
        refine q_getR h0 dX5_add_64 fl5_19 rfl ?_
        refine r_aload_n dX5_add_67 rfl 0 rfl ?_
        obtain ⟨t13, h0, h⟩ := bd h
        refine q_getR h0 dX5_add_68 fl5_26 rfl ?_
        obtain ⟨z14, hk, h⟩ := bd h
        obtain ⟨t15, S16, h0, h⟩ := bd2_s h
        refine r_invV (As := [.ref t13]) (st := []) dX5_add_71 lv5_173 (by unfold RM; decide) (Nat.le_of_ble_eq_true rfl) rfl rfl (pk_ok hk) (T_X2_insert hl h0) ?_
        cases h
        exact r_ireturn dX5_add_74 rfl rfl (by decide) (by decide)
      · rw [if_neg c10] at h
        cases h
        exact r_throwS (text := "there are 24 records") tw_65_69 rfl (by decide) dX5_add_48 dX5_add_51 dX5_add_52 dX5_add_54 dX5_add_57 rfl rfl (by decide) (Nat.le_of_ble_eq_true rfl) (by decide) (by decide)
    · rw [if_neg c5] at h
      cases h
      exact r_throwS (text := "the draft has one allele") tw_65_69 rfl (by decide) dX5_add_28 dX5_add_31 dX5_add_32 dX5_add_34 dX5_add_37 rfl rfl (by decide) (Nat.le_of_ble_eq_true rfl) (by decide) (by decide)
  · rw [if_pos c2] at h
    cases h
    exact r_throwS (text := "there is no draft") tw_65_69 rfl (by decide) dX5_add_7 dX5_add_10 dX5_add_11 dX5_add_13 dX5_add_16 rfl rfl (by decide) (Nat.le_of_ble_eq_true rfl) (by decide) (by decide)

def F_X5_requireRecord (v0 : Nat) (v1 : Int32) (S : Mem) : Option ((Unit ⊕ String) × Mem) :=
    if v1 < 0 then
      some (.inr "java/lang/IllegalArgumentException", S)
    else
      (pgR 5 1 S v0).bind fun t2 =>
      (pgI 2 1 S t2).bind fun t3 =>
      if v1 < t3 then
        some (.inl (), S)
      else
        some (.inr "java/lang/IllegalArgumentException", S)
set_option maxRecDepth 100000 in
theorem T_X5_requireRecord {g : GG} {l : Launch} (hl : l.stackTraces = false) {v0 : Nat} {v1 : Int32} {S S' : Mem} {r : Unit ⊕ String} (h : F_X5_requireRecord v0 v1 S = some (r, S')) : Call g l uX5_requireRecord [.ref v0, .int v1] S (cxV r) S' := by
  refine call_of (by decide +kernel) hl rfl (Nat.le_of_ble_eq_true rfl) ?_
  show Run g l uX5_requireRecord _ 0 [(0, .ref v0), (1, .int v1)] [] 0 0 S
  unfold F_X5_requireRecord at h
  refine r_iload_n dX5_requireRecord_0 rfl 1 rfl ?_
  refine r_if_lt (tgt := 15) dX5_requireRecord_1 (by decide) (fun c1 => ?_) (fun c1 => ?_)
  · rw [if_pos c1] at h
    cases h
    exact r_throwSW (text := "there is no such record") tw_54_58 rfl (by decide) dX5_requireRecord_15 dX5_requireRecord_18 dX5_requireRecord_19 dX5_requireRecord_22 dX5_requireRecord_25 rfl rfl (by decide) (Nat.le_of_ble_eq_true rfl) (by decide) (by decide)
  · rw [if_neg c1] at h
    refine r_iload_n dX5_requireRecord_4 rfl 1 rfl ?_
    refine r_aload_n dX5_requireRecord_5 rfl 0 rfl ?_
    obtain ⟨t2, h0, h⟩ := bd h
    refine q_getR h0 dX5_requireRecord_6 fl5_19 rfl ?_
    obtain ⟨t3, h0, h⟩ := bd h
    refine q_getI h0 dX5_requireRecord_9 fl5_61 rfl ?_
    refine r_icmp_lt (tgt := 26) dX5_requireRecord_12 (by decide) (fun c4 => ?_) (fun c4 => ?_)
    · rw [if_pos c4] at h
      cases h
      exact r_return dX5_requireRecord_26 rfl (by decide) (by decide)
    · rw [if_neg c4] at h
      cases h
      exact r_throwSW (text := "there is no such record") tw_54_58 rfl (by decide) dX5_requireRecord_15 dX5_requireRecord_18 dX5_requireRecord_19 dX5_requireRecord_22 dX5_requireRecord_25 rfl rfl (by decide) (Nat.le_of_ble_eq_true rfl) (by decide) (by decide)

