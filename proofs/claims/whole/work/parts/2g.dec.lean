def F_X6_letter (v0 : Int32) (S : Mem) : Option (Int32 × Mem) :=
    if v0 = 0 then
      some ((65 : Int32), S)
    else
      if v0 = (1 : Int32) then
        some ((67 : Int32), S)
      else
        if v0 = (2 : Int32) then
          some ((71 : Int32), S)
        else
          some ((84 : Int32), S)
set_option maxRecDepth 100000 in
theorem T_X6_letter {g : GG} {l : Launch} (hl : l.stackTraces = false) {v0 : Int32} {S S' : Mem} {r : Int32} (h : F_X6_letter v0 S = some (r, S')) : Call g l uX6_letter [.int v0] S (cvI r) S' := by
  refine call_of (by decide +kernel) hl rfl (Nat.le_of_ble_eq_true rfl) ?_
  show Run g l uX6_letter _ 0 [(0, .int v0)] [] 0 0 S
  unfold F_X6_letter at h
  refine r_iload_n dX6_letter_0 rfl 0 rfl ?_
  refine r_if_ne (tgt := 9) dX6_letter_1 (by decide) (fun c1 => ?_) (fun c1 => ?_)
  · rw [if_neg c1] at h
    refine r_iload_n dX6_letter_9 rfl 0 rfl ?_
    refine r_iconst (v := (1 : Int32)) dX6_letter_10 (by decide) ?_
    refine r_icmp_ne (tgt := 19) dX6_letter_11 (by decide) (fun c2 => ?_) (fun c2 => ?_)
    · rw [if_neg c2] at h
      refine r_iload_n dX6_letter_19 rfl 0 rfl ?_
      refine r_iconst (v := (2 : Int32)) dX6_letter_20 (by decide) ?_
      refine r_icmp_ne (tgt := 29) dX6_letter_21 (by decide) (fun c3 => ?_) (fun c3 => ?_)
      · rw [if_neg c3] at h
        refine r_bipush (v := (84 : Int32)) dX6_letter_29 (by decide) ?_
        cases h
        exact r_ireturn dX6_letter_31 rfl rfl (by decide) (by decide)
      · rw [if_pos c3] at h
        refine r_bipush (v := (71 : Int32)) dX6_letter_24 (by decide) ?_
        refine r_goto (tgt := 31) dX6_letter_26 (by decide) ?_
        cases h
        exact r_ireturn dX6_letter_31 rfl rfl (by decide) (by decide)
    · rw [if_pos c2] at h
      refine r_bipush (v := (67 : Int32)) dX6_letter_14 (by decide) ?_
      refine r_goto (tgt := 31) dX6_letter_16 (by decide) ?_
      cases h
      exact r_ireturn dX6_letter_31 rfl rfl (by decide) (by decide)
  · rw [if_pos c1] at h
    refine r_bipush (v := (65 : Int32)) dX6_letter_4 (by decide) ?_
    refine r_goto (tgt := 31) dX6_letter_6 (by decide) ?_
    cases h
    exact r_ireturn dX6_letter_31 rfl rfl (by decide) (by decide)

def F_X6_writeOut_L164 (K150 : Nat → Int32 → Int32 → Int32 → Mem → Option Mem) : Nat → Nat → Int32 → Int32 → Int32 → Int32 → Mem → Option Mem
  | 0, _, _, _, _, _, _ => none
  | fu + 1, v0, v1, v2, v3, v4, S =>
    if (2 : Int32) ≤ v4 then
      bd2 (F_X6_pairs v2 S) fun t2 S3 =>
      (pk 6 S3 v0).bind fun _ =>
      (F_X6_writeRow v0 v1 ((21 : Int32) + ((10 : Int32) * v3)) t2 S3).bind fun S6 =>
      K150 v0 v1 v2 (v3 + 1) S6
    else
      (pk 6 S v0).bind fun _ =>
      bd2 (F_X6_get v0 v1 (((15 : Int32) + ((3 : Int32) * v3)) + v4) S) fun t8 S9 =>
      (pk 6 S9 v0).bind fun _ =>
      bd2 (F_X6_get v0 v1 (((15 : Int32) + ((3 : Int32) * v3)) + (2 : Int32)) S9) fun t11 S12 =>
      (pk 6 S12 v0).bind fun _ =>
      (F_X6_write v0 (((2 : Int32) * (t8 + (1 : Int32))) + t11) S12).bind fun S15 =>
      F_X6_writeOut_L164 K150 fu v0 v1 v2 v3 (v4 + 1) S15
set_option maxRecDepth 100000 in
theorem T_X6_writeOut_L164 {g : GG} {l : Launch} (hl : l.stackTraces = false) {S' : Mem}  {K150 : Nat → Int32 → Int32 → Int32 → Mem → Option Mem} (hK150 : ∀ (v0 : Nat) (v1 : Int32) (v2 : Int32) (v3 : Int32) (S : Mem), K150 v0 v1 v2 v3 S = some S' → Run g l uX6_writeOut (fin g uX6_writeOut cvV S') 150 [(0, .ref v0), (1, .int v1), (2, .int v2), (3, .int v3)] [] 0 0 S) : ∀ (fu : Nat) (v0 : Nat) (v1 : Int32) (v2 : Int32) (v3 : Int32) (v4 : Int32) (S : Mem), F_X6_writeOut_L164 K150 fu v0 v1 v2 v3 v4 S = some S' → Run g l uX6_writeOut (fin g uX6_writeOut cvV S') 164 [(0, .ref v0), (1, .int v1), (2, .int v2), (3, .int v3), (4, .int v4)] [] 0 0 S := by
  intro fu
  induction fu with
  | zero =>
    intro v0 v1 v2 v3 v4 S h
    cases (show none = some _ from h)
  | succ fu ih =>
    intro v0 v1 v2 v3 v4 S h
    unfold F_X6_writeOut_L164 at h
    refine r_iload dX6_writeOut_164 4 rfl ?_
    refine r_iconst (v := (2 : Int32)) dX6_writeOut_166 (by decide) ?_
    refine r_icmp_ge (tgt := 212) dX6_writeOut_167 (by decide) (fun c1 => ?_) (fun c1 => ?_)
    · rw [if_pos c1] at h
      refine r_aload_n dX6_writeOut_212 rfl 0 rfl ?_
      refine r_iload_n dX6_writeOut_213 rfl 1 rfl ?_
      refine r_bipush (v := (21 : Int32)) dX6_writeOut_214 (by decide) ?_
      refine r_bipush (v := (10 : Int32)) dX6_writeOut_216 (by decide) ?_
      refine r_iload_n dX6_writeOut_218 rfl 3 rfl ?_
      refine r_imul dX6_writeOut_219 ?_
      refine r_iadd dX6_writeOut_220 ?_
      refine r_iload_n dX6_writeOut_221 rfl 2 rfl ?_
      obtain ⟨t2, S3, h0, h⟩ := bd2_s h
      refine r_invS (As := [.int v2]) (st := [.int ((21 : Int32) + ((10 : Int32) * v3)), .int v1, .ref v0]) dX6_writeOut_222 ls6_70 (by unfold RM; decide) (Nat.le_of_ble_eq_true rfl) rfl rfl (T_X6_pairs hl h0) ?_
      obtain ⟨z4, hk, h⟩ := bd h
      obtain ⟨S6, h0, h⟩ := bd h
      refine r_invV (As := [.int v1, .int ((21 : Int32) + ((10 : Int32) * v3)), .int t2]) (st := []) dX6_writeOut_225 lv6_130 (by unfold RM; decide) (Nat.le_of_ble_eq_true rfl) rfl rfl (pk_ok hk) (T_X6_writeRow hl h0) ?_
      refine r_iinc (v := v3 + 1) (lv' := [(3, .int (v3 + 1)), (0, .ref v0), (1, .int v1), (2, .int v2), (4, .int v4)]) dX6_writeOut_228 3 rfl rfl (by decide) rfl ?_
      refine r_goto (tgt := 150) dX6_writeOut_231 (by decide) ?_
      refine r_sub [1, 2, 3, 0] rfl ?_
      exact hK150 v0 v1 v2 (v3 + 1) S6 h
    · rw [if_neg c1] at h
      refine r_aload_n dX6_writeOut_170 rfl 0 rfl ?_
      refine r_iconst (v := (2 : Int32)) dX6_writeOut_171 (by decide) ?_
      refine r_aload_n dX6_writeOut_172 rfl 0 rfl ?_
      refine r_iload_n dX6_writeOut_173 rfl 1 rfl ?_
      refine r_bipush (v := (15 : Int32)) dX6_writeOut_174 (by decide) ?_
      refine r_iconst (v := (3 : Int32)) dX6_writeOut_176 (by decide) ?_
      refine r_iload_n dX6_writeOut_177 rfl 3 rfl ?_
      refine r_imul dX6_writeOut_178 ?_
      refine r_iadd dX6_writeOut_179 ?_
      refine r_iload dX6_writeOut_180 4 rfl ?_
      refine r_iadd dX6_writeOut_182 ?_
      obtain ⟨z7, hk, h⟩ := bd h
      obtain ⟨t8, S9, h0, h⟩ := bd2_s h
      refine r_invV (As := [.int v1, .int (((15 : Int32) + ((3 : Int32) * v3)) + v4)]) (st := [.int ((2 : Int32)), .ref v0]) dX6_writeOut_183 lv6_33 (by unfold RM; decide) (Nat.le_of_ble_eq_true rfl) rfl rfl (pk_ok hk) (T_X6_get hl h0) ?_
      refine r_iconst (v := (1 : Int32)) dX6_writeOut_186 (by decide) ?_
      refine r_iadd dX6_writeOut_187 ?_
      refine r_imul dX6_writeOut_188 ?_
      refine r_aload_n dX6_writeOut_189 rfl 0 rfl ?_
      refine r_iload_n dX6_writeOut_190 rfl 1 rfl ?_
      refine r_bipush (v := (15 : Int32)) dX6_writeOut_191 (by decide) ?_
      refine r_iconst (v := (3 : Int32)) dX6_writeOut_193 (by decide) ?_
      refine r_iload_n dX6_writeOut_194 rfl 3 rfl ?_
      refine r_imul dX6_writeOut_195 ?_
      refine r_iadd dX6_writeOut_196 ?_
      refine r_iconst (v := (2 : Int32)) dX6_writeOut_197 (by decide) ?_
      refine r_iadd dX6_writeOut_198 ?_
      obtain ⟨z10, hk, h⟩ := bd h
      obtain ⟨t11, S12, h0, h⟩ := bd2_s h
      refine r_invV (As := [.int v1, .int (((15 : Int32) + ((3 : Int32) * v3)) + (2 : Int32))]) (st := [.int ((2 : Int32) * (t8 + (1 : Int32))), .ref v0]) dX6_writeOut_199 lv6_33 (by unfold RM; decide) (Nat.le_of_ble_eq_true rfl) rfl rfl (pk_ok hk) (T_X6_get hl h0) ?_
      refine r_iadd dX6_writeOut_202 ?_
      obtain ⟨z13, hk, h⟩ := bd h
      obtain ⟨S15, h0, h⟩ := bd h
      refine r_invV (As := [.int (((2 : Int32) * (t8 + (1 : Int32))) + t11)]) (st := []) dX6_writeOut_203 lv6_124 (by unfold RM; decide) (Nat.le_of_ble_eq_true rfl) rfl rfl (pk_ok hk) (T_X6_write hl h0) ?_
      refine r_iinc (v := v4 + 1) (lv' := [(4, .int (v4 + 1)), (0, .ref v0), (1, .int v1), (2, .int v2), (3, .int v3)]) dX6_writeOut_206 4 rfl rfl (by decide) rfl ?_
      refine r_goto (tgt := 164) dX6_writeOut_209 (by decide) ?_
      refine r_sub [1, 2, 3, 4, 0] rfl ?_
      exact ih v0 v1 v2 v3 (v4 + 1) S15 h

def F_X6_writeOut_L150 : Nat → Nat → Int32 → Int32 → Int32 → Mem → Option Mem
  | 0, _, _, _, _, _ => none
  | fu + 1, v0, v1, v2, v3, S =>
    if (2 : Int32) ≤ v3 then
      some S
    else
      (pk 6 S v0).bind fun _ =>
      (F_X6_write v0 (33 : Int32) S).bind fun S19 =>
      F_X6_writeOut_L164 (F_X6_writeOut_L150 fu) FU v0 v1 v2 v3 (0 : Int32) S19
set_option maxRecDepth 100000 in
theorem T_X6_writeOut_L150 {g : GG} {l : Launch} (hl : l.stackTraces = false) {S' : Mem}  : ∀ (fu : Nat) (v0 : Nat) (v1 : Int32) (v2 : Int32) (v3 : Int32) (S : Mem), F_X6_writeOut_L150 fu v0 v1 v2 v3 S = some S' → Run g l uX6_writeOut (fin g uX6_writeOut cvV S') 150 [(0, .ref v0), (1, .int v1), (2, .int v2), (3, .int v3)] [] 0 0 S := by
  intro fu
  induction fu with
  | zero =>
    intro v0 v1 v2 v3 S h
    cases (show none = some _ from h)
  | succ fu ih =>
    intro v0 v1 v2 v3 S h
    unfold F_X6_writeOut_L150 at h
    refine r_iload_n dX6_writeOut_150 rfl 3 rfl ?_
    refine r_iconst (v := (2 : Int32)) dX6_writeOut_151 (by decide) ?_
    refine r_icmp_ge (tgt := 234) dX6_writeOut_152 (by decide) (fun c16 => ?_) (fun c16 => ?_)
    · rw [if_pos c16] at h
      cases h
      exact r_return dX6_writeOut_234 rfl (by decide) (by decide)
    · rw [if_neg c16] at h
      refine r_aload_n dX6_writeOut_155 rfl 0 rfl ?_
      refine r_bipush (v := (33 : Int32)) dX6_writeOut_156 (by decide) ?_
      obtain ⟨z17, hk, h⟩ := bd h
      obtain ⟨S19, h0, h⟩ := bd h
      refine r_invV (As := [.int ((33 : Int32))]) (st := []) dX6_writeOut_158 lv6_124 (by unfold RM; decide) (Nat.le_of_ble_eq_true rfl) rfl rfl (pk_ok hk) (T_X6_write hl h0) ?_
      refine r_iconst (v := (0 : Int32)) dX6_writeOut_161 (by decide) ?_
      refine r_istore (lv' := [(4, .int ((0 : Int32))), (0, .ref v0), (1, .int v1), (2, .int v2), (3, .int v3)]) dX6_writeOut_162 (by decide) rfl ?_
      refine r_sub [1, 2, 3, 4, 0] rfl ?_
      exact T_X6_writeOut_L164 hl (fun v0 v1 v2 v3 S h => ih v0 v1 v2 v3 S h) FU v0 v1 v2 v3 (0 : Int32) S19 h

def F_X6_writeOut_L100 (K67 : Nat → Int32 → Int32 → Int32 → Mem → Option Mem) : Nat → Nat → Int32 → Int32 → Int32 → Int32 → Mem → Option Mem
  | 0, _, _, _, _, _, _ => none
  | fu + 1, v0, v1, v2, v3, v5, S =>
    if v5 < 0 then
      K67 v0 v1 v2 (v3 + 1) S
    else
      (pk 6 S v0).bind fun _ =>
      bd2 (F_X6_get v0 v1 ((6 : Int32) + v3) S) fun t22 S23 =>
      bd2 (F_X6_letter ((t22 >>> (((2 : Int32) * v5) &&& 31)) &&& (3 : Int32)) S23) fun t24 S25 =>
      (pk 6 S25 v0).bind fun _ =>
      (F_X6_write v0 t24 S25).bind fun S28 =>
      F_X6_writeOut_L100 K67 fu v0 v1 v2 v3 (v5 + (-1)) S28
set_option maxRecDepth 100000 in
theorem T_X6_writeOut_L100 {g : GG} {l : Launch} (hl : l.stackTraces = false) {S' : Mem}  {K67 : Nat → Int32 → Int32 → Int32 → Mem → Option Mem} (hK67 : ∀ (v0 : Nat) (v1 : Int32) (v2 : Int32) (v3 : Int32) (S : Mem), K67 v0 v1 v2 v3 S = some S' → Run g l uX6_writeOut (fin g uX6_writeOut cvV S') 67 [(0, .ref v0), (1, .int v1), (2, .int v2), (3, .int v3)] [] 0 0 S) : ∀ (fu : Nat) (v0 : Nat) (v1 : Int32) (v2 : Int32) (v3 : Int32) (v5 : Int32) (S : Mem), F_X6_writeOut_L100 K67 fu v0 v1 v2 v3 v5 S = some S' → Run g l uX6_writeOut (fin g uX6_writeOut cvV S') 100 [(0, .ref v0), (1, .int v1), (2, .int v2), (3, .int v3), (5, .int v5)] [] 0 0 S := by
  intro fu
  induction fu with
  | zero =>
    intro v0 v1 v2 v3 v5 S h
    cases (show none = some _ from h)
  | succ fu ih =>
    intro v0 v1 v2 v3 v5 S h
    unfold F_X6_writeOut_L100 at h
    refine r_iload dX6_writeOut_100 4 rfl ?_
    refine r_if_lt (tgt := 134) dX6_writeOut_102 (by decide) (fun c20 => ?_) (fun c20 => ?_)
    · rw [if_pos c20] at h
      refine r_iinc (v := v3 + 1) (lv' := [(3, .int (v3 + 1)), (0, .ref v0), (1, .int v1), (2, .int v2), (5, .int v5)]) dX6_writeOut_134 3 rfl rfl (by decide) rfl ?_
      refine r_goto (tgt := 67) dX6_writeOut_137 (by decide) ?_
      refine r_sub [1, 2, 3, 0] rfl ?_
      exact hK67 v0 v1 v2 (v3 + 1) S h
    · rw [if_neg c20] at h
      refine r_aload_n dX6_writeOut_105 rfl 0 rfl ?_
      refine r_aload_n dX6_writeOut_106 rfl 0 rfl ?_
      refine r_iload_n dX6_writeOut_107 rfl 1 rfl ?_
      refine r_bipush (v := (6 : Int32)) dX6_writeOut_108 (by decide) ?_
      refine r_iload_n dX6_writeOut_110 rfl 3 rfl ?_
      refine r_iadd dX6_writeOut_111 ?_
      obtain ⟨z21, hk, h⟩ := bd h
      obtain ⟨t22, S23, h0, h⟩ := bd2_s h
      refine r_invV (As := [.int v1, .int ((6 : Int32) + v3)]) (st := [.ref v0]) dX6_writeOut_112 lv6_33 (by unfold RM; decide) (Nat.le_of_ble_eq_true rfl) rfl rfl (pk_ok hk) (T_X6_get hl h0) ?_
      refine r_iconst (v := (2 : Int32)) dX6_writeOut_115 (by decide) ?_
      refine r_iload dX6_writeOut_116 4 rfl ?_
      refine r_imul dX6_writeOut_118 ?_
      refine r_ishr dX6_writeOut_119 ?_
      refine r_iconst (v := (3 : Int32)) dX6_writeOut_120 (by decide) ?_
      refine r_iand dX6_writeOut_121 ?_
      obtain ⟨t24, S25, h0, h⟩ := bd2_s h
      refine r_invS (As := [.int ((t22 >>> (((2 : Int32) * v5) &&& 31)) &&& (3 : Int32))]) (st := [.ref v0]) dX6_writeOut_122 ls6_127 (by unfold RM; decide) (Nat.le_of_ble_eq_true rfl) rfl rfl (T_X6_letter hl h0) ?_
      obtain ⟨z26, hk, h⟩ := bd h
      obtain ⟨S28, h0, h⟩ := bd h
      refine r_invV (As := [.int t24]) (st := []) dX6_writeOut_125 lv6_124 (by unfold RM; decide) (Nat.le_of_ble_eq_true rfl) rfl rfl (pk_ok hk) (T_X6_write hl h0) ?_
      refine r_iinc (v := v5 + (-1)) (lv' := [(5, .int (v5 + (-1))), (0, .ref v0), (1, .int v1), (2, .int v2), (3, .int v3)]) dX6_writeOut_128 4 rfl rfl (by decide) rfl ?_
      refine r_goto (tgt := 100) dX6_writeOut_131 (by decide) ?_
      refine r_sub [1, 2, 3, 4, 0] rfl ?_
      exact ih v0 v1 v2 v3 (v5 + (-1)) S28 h

def F_X6_writeOut_L67 : Nat → Nat → Int32 → Int32 → Int32 → Mem → Option Mem
  | 0, _, _, _, _, _ => none
  | fu + 1, v0, v1, v2, v3, S =>
    if v2 ≤ v3 then
      (pk 6 S v0).bind fun _ =>
      (F_X6_writeRow v0 v1 (11 : Int32) v2 S).bind fun S32 =>
      F_X6_writeOut_L150 FU v0 v1 v2 (0 : Int32) S32
    else
      (pk 6 S v0).bind fun _ =>
      bd2 (F_X6_get v0 v1 ((2 : Int32) + v3) S) fun t34 S35 =>
      (pk 6 S35 v0).bind fun _ =>
      (F_X6_write v0 (((16 : Int32) * t34) + (7 : Int32)) S35).bind fun S38 =>
      F_X6_writeOut_L100 (F_X6_writeOut_L67 fu) FU v0 v1 v2 v3 (t34 - (1 : Int32)) S38
set_option maxRecDepth 100000 in
theorem T_X6_writeOut_L67 {g : GG} {l : Launch} (hl : l.stackTraces = false) {S' : Mem}  : ∀ (fu : Nat) (v0 : Nat) (v1 : Int32) (v2 : Int32) (v3 : Int32) (S : Mem), F_X6_writeOut_L67 fu v0 v1 v2 v3 S = some S' → Run g l uX6_writeOut (fin g uX6_writeOut cvV S') 67 [(0, .ref v0), (1, .int v1), (2, .int v2), (3, .int v3)] [] 0 0 S := by
  intro fu
  induction fu with
  | zero =>
    intro v0 v1 v2 v3 S h
    cases (show none = some _ from h)
  | succ fu ih =>
    intro v0 v1 v2 v3 S h
    unfold F_X6_writeOut_L67 at h
    refine r_iload_n dX6_writeOut_67 rfl 3 rfl ?_
    refine r_iload_n dX6_writeOut_68 rfl 2 rfl ?_
    refine r_icmp_ge (tgt := 140) dX6_writeOut_69 (by decide) (fun c29 => ?_) (fun c29 => ?_)
    · rw [if_pos c29] at h
      refine r_aload_n dX6_writeOut_140 rfl 0 rfl ?_
      refine r_iload_n dX6_writeOut_141 rfl 1 rfl ?_
      refine r_bipush (v := (11 : Int32)) dX6_writeOut_142 (by decide) ?_
      refine r_iload_n dX6_writeOut_144 rfl 2 rfl ?_
      obtain ⟨z30, hk, h⟩ := bd h
      obtain ⟨S32, h0, h⟩ := bd h
      refine r_invV (As := [.int v1, .int ((11 : Int32)), .int v2]) (st := []) dX6_writeOut_145 lv6_130 (by unfold RM; decide) (Nat.le_of_ble_eq_true rfl) rfl rfl (pk_ok hk) (T_X6_writeRow hl h0) ?_
      refine r_iconst (v := (0 : Int32)) dX6_writeOut_148 (by decide) ?_
      refine r_istore_n (lv' := [(3, .int ((0 : Int32))), (0, .ref v0), (1, .int v1), (2, .int v2)]) dX6_writeOut_149 rfl (by decide) rfl ?_
      refine r_sub [1, 2, 3, 0] rfl ?_
      exact T_X6_writeOut_L150 hl FU v0 v1 v2 (0 : Int32) S32 h
    · rw [if_neg c29] at h
      refine r_aload_n dX6_writeOut_72 rfl 0 rfl ?_
      refine r_iload_n dX6_writeOut_73 rfl 1 rfl ?_
      refine r_iconst (v := (2 : Int32)) dX6_writeOut_74 (by decide) ?_
      refine r_iload_n dX6_writeOut_75 rfl 3 rfl ?_
      refine r_iadd dX6_writeOut_76 ?_
      obtain ⟨z33, hk, h⟩ := bd h
      obtain ⟨t34, S35, h0, h⟩ := bd2_s h
      refine r_invV (As := [.int v1, .int ((2 : Int32) + v3)]) (st := []) dX6_writeOut_77 lv6_33 (by unfold RM; decide) (Nat.le_of_ble_eq_true rfl) rfl rfl (pk_ok hk) (T_X6_get hl h0) ?_
      refine r_istore (lv' := [(4, .int t34), (0, .ref v0), (1, .int v1), (2, .int v2), (3, .int v3)]) dX6_writeOut_80 (by decide) rfl ?_
      refine r_aload_n dX6_writeOut_82 rfl 1 rfl ?_
      refine r_bipush (v := (16 : Int32)) dX6_writeOut_83 (by decide) ?_
      refine r_iload dX6_writeOut_85 0 rfl ?_
      refine r_imul dX6_writeOut_87 ?_
      refine r_bipush (v := (7 : Int32)) dX6_writeOut_88 (by decide) ?_
      refine r_iadd dX6_writeOut_90 ?_
      obtain ⟨z36, hk, h⟩ := bd h
      obtain ⟨S38, h0, h⟩ := bd h
      refine r_invV (As := [.int (((16 : Int32) * t34) + (7 : Int32))]) (st := []) dX6_writeOut_91 lv6_124 (by unfold RM; decide) (Nat.le_of_ble_eq_true rfl) rfl rfl (pk_ok hk) (T_X6_write hl h0) ?_
      refine r_iload dX6_writeOut_94 0 rfl ?_
      refine r_iconst (v := (1 : Int32)) dX6_writeOut_96 (by decide) ?_
      refine r_isub dX6_writeOut_97 ?_
      refine r_istore (lv' := [(5, .int (t34 - (1 : Int32))), (4, .int t34), (0, .ref v0), (1, .int v1), (2, .int v2), (3, .int v3)]) dX6_writeOut_98 (by decide) rfl ?_
      refine r_sub [2, 3, 4, 5, 0] rfl ?_
      exact T_X6_writeOut_L100 hl (fun v0 v1 v2 v3 S h => ih v0 v1 v2 v3 S h) FU v0 v1 v2 v3 (t34 - (1 : Int32)) S38 h

def F_X6_writeOut (v0 : Nat) (v1 : Int32) (S : Mem) : Option Mem :=
    (ppI 6 7 S v0 (0 : Int32)).bind fun S39 =>
    (pk 6 S39 v0).bind fun _ =>
    bd2 (F_X6_get v0 v1 (0 : Int32) S39) fun t41 S42 =>
    (pk 6 S42 v0).bind fun _ =>
    (F_X6_write v0 t41 S42).bind fun S45 =>
    (pk 6 S45 v0).bind fun _ =>
    bd2 (F_X6_get v0 v1 (0 : Int32) S45) fun t47 S48 =>
    (pk 6 S48 v0).bind fun _ =>
    (F_X6_write v0 (t47 >>> ((8 : Int32) &&& 31)) S48).bind fun S51 =>
    (pk 6 S51 v0).bind fun _ =>
    bd2 (F_X6_get v0 v1 (10 : Int32) S51) fun t53 S54 =>
    (pk 6 S54 v0).bind fun _ =>
    (F_X6_write v0 t53 S54).bind fun S57 =>
    (pk 6 S57 v0).bind fun _ =>
    bd2 (F_X6_get v0 v1 (10 : Int32) S57) fun t59 S60 =>
    (pk 6 S60 v0).bind fun _ =>
    (F_X6_write v0 (t59 >>> ((8 : Int32) &&& 31)) S60).bind fun S63 =>
    (pk 6 S63 v0).bind fun _ =>
    bd2 (F_X6_get v0 v1 (1 : Int32) S63) fun t65 S66 =>
    (pk 6 S66 v0).bind fun _ =>
    (F_X6_write v0 t65 S66).bind fun S69 =>
    F_X6_writeOut_L67 FU v0 v1 t65 (0 : Int32) S69
set_option maxRecDepth 100000 in
theorem T_X6_writeOut {g : GG} {l : Launch} (hl : l.stackTraces = false) {v0 : Nat} {v1 : Int32} {S S' : Mem} (h : F_X6_writeOut v0 v1 S = some S') : Call g l uX6_writeOut [.ref v0, .int v1] S cvV S' := by
  refine call_of (by decide +kernel) hl rfl (Nat.le_of_ble_eq_true rfl) ?_
  show Run g l uX6_writeOut _ 0 [(0, .ref v0), (1, .int v1)] [] 0 0 S
  unfold F_X6_writeOut at h
  refine r_aload_n dX6_writeOut_0 rfl 0 rfl ?_
  refine r_iconst (v := (0 : Int32)) dX6_writeOut_1 (by decide) ?_
  obtain ⟨S39, h0, h⟩ := bd h
  refine q_putI h0 dX6_writeOut_2 fl6_121 rfl ?_
  refine r_aload_n dX6_writeOut_5 rfl 0 rfl ?_
  refine r_aload_n dX6_writeOut_6 rfl 0 rfl ?_
  refine r_iload_n dX6_writeOut_7 rfl 1 rfl ?_
  refine r_iconst (v := (0 : Int32)) dX6_writeOut_8 (by decide) ?_
  obtain ⟨z40, hk, h⟩ := bd h
  obtain ⟨t41, S42, h0, h⟩ := bd2_s h
  refine r_invV (As := [.int v1, .int ((0 : Int32))]) (st := [.ref v0]) dX6_writeOut_9 lv6_33 (by unfold RM; decide) (Nat.le_of_ble_eq_true rfl) rfl rfl (pk_ok hk) (T_X6_get hl h0) ?_
  obtain ⟨z43, hk, h⟩ := bd h
  obtain ⟨S45, h0, h⟩ := bd h
  refine r_invV (As := [.int t41]) (st := []) dX6_writeOut_12 lv6_124 (by unfold RM; decide) (Nat.le_of_ble_eq_true rfl) rfl rfl (pk_ok hk) (T_X6_write hl h0) ?_
  refine r_aload_n dX6_writeOut_15 rfl 0 rfl ?_
  refine r_aload_n dX6_writeOut_16 rfl 0 rfl ?_
  refine r_iload_n dX6_writeOut_17 rfl 1 rfl ?_
  refine r_iconst (v := (0 : Int32)) dX6_writeOut_18 (by decide) ?_
  obtain ⟨z46, hk, h⟩ := bd h
  obtain ⟨t47, S48, h0, h⟩ := bd2_s h
  refine r_invV (As := [.int v1, .int ((0 : Int32))]) (st := [.ref v0]) dX6_writeOut_19 lv6_33 (by unfold RM; decide) (Nat.le_of_ble_eq_true rfl) rfl rfl (pk_ok hk) (T_X6_get hl h0) ?_
  refine r_bipush (v := (8 : Int32)) dX6_writeOut_22 (by decide) ?_
  refine r_ishr dX6_writeOut_24 ?_
  obtain ⟨z49, hk, h⟩ := bd h
  obtain ⟨S51, h0, h⟩ := bd h
  refine r_invV (As := [.int (t47 >>> ((8 : Int32) &&& 31))]) (st := []) dX6_writeOut_25 lv6_124 (by unfold RM; decide) (Nat.le_of_ble_eq_true rfl) rfl rfl (pk_ok hk) (T_X6_write hl h0) ?_
  refine r_aload_n dX6_writeOut_28 rfl 0 rfl ?_
  refine r_aload_n dX6_writeOut_29 rfl 0 rfl ?_
  refine r_iload_n dX6_writeOut_30 rfl 1 rfl ?_
  refine r_bipush (v := (10 : Int32)) dX6_writeOut_31 (by decide) ?_
  obtain ⟨z52, hk, h⟩ := bd h
  obtain ⟨t53, S54, h0, h⟩ := bd2_s h
  refine r_invV (As := [.int v1, .int ((10 : Int32))]) (st := [.ref v0]) dX6_writeOut_33 lv6_33 (by unfold RM; decide) (Nat.le_of_ble_eq_true rfl) rfl rfl (pk_ok hk) (T_X6_get hl h0) ?_
  obtain ⟨z55, hk, h⟩ := bd h
  obtain ⟨S57, h0, h⟩ := bd h
  refine r_invV (As := [.int t53]) (st := []) dX6_writeOut_36 lv6_124 (by unfold RM; decide) (Nat.le_of_ble_eq_true rfl) rfl rfl (pk_ok hk) (T_X6_write hl h0) ?_
  refine r_aload_n dX6_writeOut_39 rfl 0 rfl ?_
  refine r_aload_n dX6_writeOut_40 rfl 0 rfl ?_
  refine r_iload_n dX6_writeOut_41 rfl 1 rfl ?_
  refine r_bipush (v := (10 : Int32)) dX6_writeOut_42 (by decide) ?_
  obtain ⟨z58, hk, h⟩ := bd h
  obtain ⟨t59, S60, h0, h⟩ := bd2_s h
  refine r_invV (As := [.int v1, .int ((10 : Int32))]) (st := [.ref v0]) dX6_writeOut_44 lv6_33 (by unfold RM; decide) (Nat.le_of_ble_eq_true rfl) rfl rfl (pk_ok hk) (T_X6_get hl h0) ?_
  refine r_bipush (v := (8 : Int32)) dX6_writeOut_47 (by decide) ?_
  refine r_ishr dX6_writeOut_49 ?_
  obtain ⟨z61, hk, h⟩ := bd h
  obtain ⟨S63, h0, h⟩ := bd h
  refine r_invV (As := [.int (t59 >>> ((8 : Int32) &&& 31))]) (st := []) dX6_writeOut_50 lv6_124 (by unfold RM; decide) (Nat.le_of_ble_eq_true rfl) rfl rfl (pk_ok hk) (T_X6_write hl h0) ?_
  refine r_aload_n dX6_writeOut_53 rfl 0 rfl ?_
  refine r_iload_n dX6_writeOut_54 rfl 1 rfl ?_
  refine r_iconst (v := (1 : Int32)) dX6_writeOut_55 (by decide) ?_
  obtain ⟨z64, hk, h⟩ := bd h
  obtain ⟨t65, S66, h0, h⟩ := bd2_s h
  refine r_invV (As := [.int v1, .int ((1 : Int32))]) (st := []) dX6_writeOut_56 lv6_33 (by unfold RM; decide) (Nat.le_of_ble_eq_true rfl) rfl rfl (pk_ok hk) (T_X6_get hl h0) ?_
  refine r_istore_n (lv' := [(2, .int t65), (0, .ref v0), (1, .int v1)]) dX6_writeOut_59 rfl (by decide) rfl ?_
  refine r_aload_n dX6_writeOut_60 rfl 1 rfl ?_
  refine r_iload_n dX6_writeOut_61 rfl 0 rfl ?_
  obtain ⟨z67, hk, h⟩ := bd h
  obtain ⟨S69, h0, h⟩ := bd h
  refine r_invV (As := [.int t65]) (st := []) dX6_writeOut_62 lv6_124 (by unfold RM; decide) (Nat.le_of_ble_eq_true rfl) rfl rfl (pk_ok hk) (T_X6_write hl h0) ?_
  refine r_iconst (v := (0 : Int32)) dX6_writeOut_65 (by decide) ?_
  refine r_istore_n (lv' := [(3, .int ((0 : Int32))), (2, .int t65), (0, .ref v0), (1, .int v1)]) dX6_writeOut_66 rfl (by decide) rfl ?_
  refine r_sub [2, 3, 1, 0] rfl ?_
  exact T_X6_writeOut_L67 hl FU v0 v1 t65 (0 : Int32) S69 h

def F_X6_written_J38 (v0 : Nat) (v2 : Int32) (s0 : Nat) (s1 : Int32) (s2 : Int32) (S : Mem) : Option (Int32 × Mem) :=
    (pk 6 S s0).bind fun _ =>
    bd2 (F_X6_throwing s0 s1 s2 S) fun t2 S3 =>
    if t2 = 0 then
      if 0 ≤ v2 then
        (pgR 6 6 S3 v0).bind fun t6 =>
        (paI S3 t6 v2).bind fun t7 =>
        some (t7, S3)
      else
        (pgI 6 7 S3 v0).bind fun t8 =>
        some (t8, S3)
    else
      some ((0 : Int32), S3)
set_option maxRecDepth 100000 in
theorem T_X6_written_J38 {g : GG} {l : Launch} (hl : l.stackTraces = false) {S' : Mem} {r : Int32}  : ∀ (v0 : Nat) (v2 : Int32) (s0 : Nat) (s1 : Int32) (s2 : Int32) (S : Mem), F_X6_written_J38 v0 v2 s0 s1 s2 S = some (r, S') → Run g l uX6_written (fin g uX6_written (cvI r) S') 38 [(0, .ref v0), (2, .int v2)] [.int s2, .int s1, .ref s0] 0 0 S := by
  intro v0 v2 s0 s1 s2 S h
  unfold F_X6_written_J38 at h
  obtain ⟨z1, hk, h⟩ := bd h
  obtain ⟨t2, S3, h0, h⟩ := bd2_s h
  refine r_invV (As := [.int s1, .int s2]) (st := []) dX6_written_38 lv6_47 (by unfold RM; decide) (Nat.le_of_ble_eq_true rfl) rfl rfl (pk_ok hk) (T_X6_throwing hl h0) ?_
  refine r_if_eq (tgt := 46) dX6_written_41 (by decide) (fun c4 => ?_) (fun c4 => ?_)
  · rw [if_pos c4] at h
    refine r_iload_n dX6_written_46 rfl 1 rfl ?_
    refine r_if_ge (tgt := 57) dX6_written_47 (by decide) (fun c5 => ?_) (fun c5 => ?_)
    · rw [if_pos c5] at h
      refine r_aload_n dX6_written_57 rfl 0 rfl ?_
      obtain ⟨t6, h0, h⟩ := bd h
      refine q_getR h0 dX6_written_58 fl6_16 rfl ?_
      refine r_iload_n dX6_written_61 rfl 1 rfl ?_
      obtain ⟨t7, h0, h⟩ := bd h
      refine q_iaload h0 dX6_written_62 ?_
      cases h
      exact r_ireturn dX6_written_63 rfl rfl (by decide) (by decide)
    · rw [if_neg c5] at h
      refine r_aload_n dX6_written_50 rfl 0 rfl ?_
      obtain ⟨t8, h0, h⟩ := bd h
      refine q_getI h0 dX6_written_51 fl6_121 rfl ?_
      refine r_goto (tgt := 63) dX6_written_54 (by decide) ?_
      cases h
      exact r_ireturn dX6_written_63 rfl rfl (by decide) (by decide)
  · rw [if_neg c4] at h
    refine r_iconst (v := (0 : Int32)) dX6_written_44 (by decide) ?_
    cases h
    exact r_ireturn dX6_written_45 rfl rfl (by decide) (by decide)

def F_X6_written_J33 (v0 : Nat) (v2 : Int32) (s0 : Nat) (s1 : Int32) (S : Mem) : Option (Int32 × Mem) :=
    F_X6_written_J38 v0 v2 s0 s1 (1 : Int32) S
set_option maxRecDepth 100000 in
theorem T_X6_written_J33 {g : GG} {l : Launch} (hl : l.stackTraces = false) {S' : Mem} {r : Int32}  : ∀ (v0 : Nat) (v2 : Int32) (s0 : Nat) (s1 : Int32) (S : Mem), F_X6_written_J33 v0 v2 s0 s1 S = some (r, S') → Run g l uX6_written (fin g uX6_written (cvI r) S') 33 [(0, .ref v0), (2, .int v2)] [.int s1, .ref s0] 0 0 S := by
  intro v0 v2 s0 s1 S h
  unfold F_X6_written_J33 at h
  refine r_iconst (v := (1 : Int32)) dX6_written_33 (by decide) ?_
  refine r_goto (tgt := 38) dX6_written_34 (by decide) ?_
  exact T_X6_written_J38 hl v0 v2 s0 s1 (1 : Int32) S h

def F_X6_written_J18 (v0 : Nat) (v2 : Int32) (v3 : Int32) (S : Mem) : Option (Int32 × Mem) :=
    if v2 < (-1 : Int32) then
      F_X6_written_J33 v0 v2 v0 v3 S
    else
      (pgI 6 7 S v0).bind fun t10 =>
      if v2 < t10 then
        F_X6_written_J38 v0 v2 v0 v3 (0 : Int32) S
      else
        F_X6_written_J33 v0 v2 v0 v3 S
set_option maxRecDepth 100000 in
theorem T_X6_written_J18 {g : GG} {l : Launch} (hl : l.stackTraces = false) {S' : Mem} {r : Int32}  : ∀ (v0 : Nat) (v2 : Int32) (v3 : Int32) (S : Mem), F_X6_written_J18 v0 v2 v3 S = some (r, S') → Run g l uX6_written (fin g uX6_written (cvI r) S') 18 [(0, .ref v0), (2, .int v2), (3, .int v3)] [] 0 0 S := by
  intro v0 v2 v3 S h
  unfold F_X6_written_J18 at h
  refine r_aload_n dX6_written_18 rfl 0 rfl ?_
  refine r_iload_n dX6_written_19 rfl 2 rfl ?_
  refine r_iload_n dX6_written_20 rfl 1 rfl ?_
  refine r_iconst (v := (-1 : Int32)) dX6_written_21 (by decide) ?_
  refine r_icmp_lt (tgt := 33) dX6_written_22 (by decide) (fun c9 => ?_) (fun c9 => ?_)
  · rw [if_pos c9] at h
    refine r_sub [0, 1] rfl ?_
    exact T_X6_written_J33 hl v0 v2 v0 v3 S h
  · rw [if_neg c9] at h
    refine r_iload_n dX6_written_25 rfl 1 rfl ?_
    refine r_aload_n dX6_written_26 rfl 0 rfl ?_
    obtain ⟨t10, h0, h⟩ := bd h
    refine q_getI h0 dX6_written_27 fl6_121 rfl ?_
    refine r_icmp_lt (tgt := 37) dX6_written_30 (by decide) (fun c11 => ?_) (fun c11 => ?_)
    · rw [if_pos c11] at h
      refine r_iconst (v := (0 : Int32)) dX6_written_37 (by decide) ?_
      refine r_sub [0, 1] rfl ?_
      exact T_X6_written_J38 hl v0 v2 v0 v3 (0 : Int32) S h
    · rw [if_neg c11] at h
      refine r_sub [0, 1] rfl ?_
      exact T_X6_written_J33 hl v0 v2 v0 v3 S h

def F_X6_written (v0 : Nat) (v1 : Int32) (v2 : Int32) (S : Mem) : Option (Int32 × Mem) :=
    (pgI 6 4 S v0).bind fun t12 =>
    bd2 (F_X6_out v1 t12 S) fun t13 S14 =>
    if t13 = 0 then
      (pk 6 S14 v0).bind fun _ =>
      (F_X6_writeOut v0 v1 S14).bind fun S18 =>
      F_X6_written_J18 v0 v2 t13 S18
    else
      F_X6_written_J18 v0 v2 t13 S14
set_option maxRecDepth 100000 in
theorem T_X6_written {g : GG} {l : Launch} (hl : l.stackTraces = false) {v0 : Nat} {v1 : Int32} {v2 : Int32} {S S' : Mem} {r : Int32} (h : F_X6_written v0 v1 v2 S = some (r, S')) : Call g l uX6_written [.ref v0, .int v1, .int v2] S (cvI r) S' := by
  refine call_of (by decide +kernel) hl rfl (Nat.le_of_ble_eq_true rfl) ?_
  show Run g l uX6_written _ 0 [(0, .ref v0), (1, .int v1), (2, .int v2)] [] 0 0 S
  unfold F_X6_written at h
  refine r_iload_n dX6_written_0 rfl 1 rfl ?_
  refine r_aload_n dX6_written_1 rfl 0 rfl ?_
  obtain ⟨t12, h0, h⟩ := bd h
  refine q_getI h0 dX6_written_2 fl6_44 rfl ?_
  obtain ⟨t13, S14, h0, h⟩ := bd2_s h
  refine r_invS (As := [.int v1, .int t12]) (st := []) dX6_written_5 ls6_67 (by unfold RM; decide) (Nat.le_of_ble_eq_true rfl) rfl rfl (T_X6_out hl h0) ?_
  refine r_istore_n (lv' := [(3, .int t13), (0, .ref v0), (1, .int v1), (2, .int v2)]) dX6_written_8 rfl (by decide) rfl ?_
  refine r_iload_n dX6_written_9 rfl 0 rfl ?_
  refine r_if_ne (tgt := 18) dX6_written_10 (by decide) (fun c15 => ?_) (fun c15 => ?_)
  · rw [if_neg c15] at h
    refine r_sub [1, 3, 0] rfl ?_
    exact T_X6_written_J18 hl v0 v2 t13 S14 h
  · rw [if_pos c15] at h
    refine r_aload_n dX6_written_13 rfl 1 rfl ?_
    refine r_iload_n dX6_written_14 rfl 2 rfl ?_
    obtain ⟨z16, hk, h⟩ := bd h
    obtain ⟨S18, h0, h⟩ := bd h
    refine r_invV (As := [.int v1]) (st := []) dX6_written_15 lv6_133 (by unfold RM; decide) (Nat.le_of_ble_eq_true rfl) rfl rfl (pk_ok hk) (T_X6_writeOut hl h0) ?_
    refine r_sub [1, 3, 0] rfl ?_
    exact T_X6_written_J18 hl v0 v2 t13 S18 h

def F_X6_type_L54 : Nat → Nat → Int64 → Int32 → Mem → Option Mem
  | 0, _, _, _, _ => none
  | fu + 1, v0, v1, v5, S =>
    if v5 < 0 then
      some S
    else
      (pgR 6 8 S v0).bind fun t2 =>
      (pgI 6 9 S v0).bind fun t3 =>
      (psI S t2 t3 (((v1 >>> (((8 : Int32) * v5).toInt64 &&& 63)) &&& (255 : Int64)).toInt32)).bind fun S4 =>
      (pgI 6 9 S4 v0).bind fun t5 =>
      (ppI 6 9 S4 v0 (t5 + (1 : Int32))).bind fun S6 =>
      F_X6_type_L54 fu v0 v1 (v5 + (-1)) S6
set_option maxRecDepth 100000 in
theorem T_X6_type_L54 {g : GG} {l : Launch} (hl : l.stackTraces = false) {S' : Mem}  : ∀ (fu : Nat) (v0 : Nat) (v1 : Int64) (v5 : Int32) (S : Mem), F_X6_type_L54 fu v0 v1 v5 S = some S' → Run g l uX6_type (fin g uX6_type cvV S') 54 [(0, .ref v0), (1, .long v1), (5, .int v5)] [] 0 0 S := by
  intro fu
  induction fu with
  | zero =>
    intro v0 v1 v5 S h
    cases (show none = some _ from h)
  | succ fu ih =>
    intro v0 v1 v5 S h
    unfold F_X6_type_L54 at h
    refine r_iload dX6_type_54 2 rfl ?_
    refine r_if_lt (tgt := 96) dX6_type_56 (by decide) (fun c1 => ?_) (fun c1 => ?_)
    · rw [if_pos c1] at h
      cases h
      exact r_return dX6_type_96 rfl (by decide) (by decide)
    · rw [if_neg c1] at h
      refine r_aload_n dX6_type_59 rfl 0 rfl ?_
      obtain ⟨t2, h0, h⟩ := bd h
      refine q_getR h0 dX6_type_60 fl6_19 rfl ?_
      refine r_aload_n dX6_type_63 rfl 0 rfl ?_
      obtain ⟨t3, h0, h⟩ := bd h
      refine q_getI h0 dX6_type_64 fl6_136 rfl ?_
      refine r_lload_n dX6_type_67 rfl 1 rfl ?_
      refine r_bipush (v := (8 : Int32)) dX6_type_68 (by decide) ?_
      refine r_iload dX6_type_70 2 rfl ?_
      refine r_imul dX6_type_72 ?_
      refine r_lshr dX6_type_73 ?_
      refine r_ldc2 dX6_type_74 wl6_139 ?_
      refine r_land dX6_type_77 ?_
      refine r_l2i dX6_type_78 ?_
      obtain ⟨S4, h0, h⟩ := bd h
      refine q_iastore h0 dX6_type_79 ?_
      refine r_aload_n dX6_type_80 rfl 0 rfl ?_
      refine r_dup dX6_type_81 rfl ?_
      obtain ⟨t5, h0, h⟩ := bd h
      refine q_getI h0 dX6_type_82 fl6_136 rfl ?_
      refine r_iconst (v := (1 : Int32)) dX6_type_85 (by decide) ?_
      refine r_iadd dX6_type_86 ?_
      obtain ⟨S6, h0, h⟩ := bd h
      refine q_putI h0 dX6_type_87 fl6_136 rfl ?_
      refine r_iinc (v := v5 + (-1)) (lv' := [(5, .int (v5 + (-1))), (0, .ref v0), (1, .long v1)]) dX6_type_90 2 rfl rfl (by decide) rfl ?_
      refine r_goto (tgt := 54) dX6_type_93 (by decide) ?_
      refine r_sub [1, 2, 0] rfl ?_
      exact ih v0 v1 (v5 + (-1)) S6 h

def F_X6_type_J42 (v0 : Nat) (v1 : Int64) (v3 : Int32) (s0 : Nat) (s1 : Int32) (s2 : Int32) (S : Mem) : Option Mem :=
    (pk 6 S s0).bind fun _ =>
    bd2 (F_X6_throwing s0 s1 s2 S) fun t8 S9 =>
    if t8 = 0 then
      F_X6_type_L54 FU v0 v1 (v3 - (1 : Int32)) S9
    else
      some S9
set_option maxRecDepth 100000 in
theorem T_X6_type_J42 {g : GG} {l : Launch} (hl : l.stackTraces = false) {S' : Mem}  : ∀ (v0 : Nat) (v1 : Int64) (v3 : Int32) (s0 : Nat) (s1 : Int32) (s2 : Int32) (S : Mem), F_X6_type_J42 v0 v1 v3 s0 s1 s2 S = some S' → Run g l uX6_type (fin g uX6_type cvV S') 42 [(0, .ref v0), (1, .long v1), (3, .int v3)] [.int s2, .int s1, .ref s0] 0 0 S := by
  intro v0 v1 v3 s0 s1 s2 S h
  unfold F_X6_type_J42 at h
  obtain ⟨z7, hk, h⟩ := bd h
  obtain ⟨t8, S9, h0, h⟩ := bd2_s h
  refine r_invV (As := [.int s1, .int s2]) (st := []) dX6_type_42 lv6_47 (by unfold RM; decide) (Nat.le_of_ble_eq_true rfl) rfl rfl (pk_ok hk) (T_X6_throwing hl h0) ?_
  refine r_if_eq (tgt := 49) dX6_type_45 (by decide) (fun c10 => ?_) (fun c10 => ?_)
  · rw [if_pos c10] at h
    refine r_iload_n dX6_type_49 rfl 2 rfl ?_
    refine r_iconst (v := (1 : Int32)) dX6_type_50 (by decide) ?_
    refine r_isub dX6_type_51 ?_
    refine r_istore (lv' := [(5, .int (v3 - (1 : Int32))), (0, .ref v0), (1, .long v1), (3, .int v3)]) dX6_type_52 (by decide) rfl ?_
    refine r_sub [1, 2, 0] rfl ?_
    exact T_X6_type_L54 hl FU v0 v1 (v3 - (1 : Int32)) S9 h
  · rw [if_neg c10] at h
    cases h
    exact r_return dX6_type_48 rfl (by decide) (by decide)

def F_X6_type_J41 (v0 : Nat) (v1 : Int64) (v3 : Int32) (s0 : Nat) (s1 : Int32) (S : Mem) : Option Mem :=
    F_X6_type_J42 v0 v1 v3 s0 s1 (0 : Int32) S
set_option maxRecDepth 100000 in
theorem T_X6_type_J41 {g : GG} {l : Launch} (hl : l.stackTraces = false) {S' : Mem}  : ∀ (v0 : Nat) (v1 : Int64) (v3 : Int32) (s0 : Nat) (s1 : Int32) (S : Mem), F_X6_type_J41 v0 v1 v3 s0 s1 S = some S' → Run g l uX6_type (fin g uX6_type cvV S') 41 [(0, .ref v0), (1, .long v1), (3, .int v3)] [.int s1, .ref s0] 0 0 S := by
  intro v0 v1 v3 s0 s1 S h
  unfold F_X6_type_J41 at h
  refine r_iconst (v := (0 : Int32)) dX6_type_41 (by decide) ?_
  exact T_X6_type_J42 hl v0 v1 v3 s0 s1 (0 : Int32) S h

def F_X6_type_J16 (v0 : Nat) (v1 : Int64) (v3 : Int32) (s0 : Int32) (S : Mem) : Option Mem :=
    if s0 = 0 then
      (pgI 6 9 S v0).bind fun t12 =>
      if (t12 + v3) ≤ (120 : Int32) then
        F_X6_type_J41 v0 v1 v3 v0 s0 S
      else
        F_X6_type_J42 v0 v1 v3 v0 s0 (1 : Int32) S
    else
      F_X6_type_J41 v0 v1 v3 v0 s0 S
set_option maxRecDepth 100000 in
theorem T_X6_type_J16 {g : GG} {l : Launch} (hl : l.stackTraces = false) {S' : Mem}  : ∀ (v0 : Nat) (v1 : Int64) (v3 : Int32) (s0 : Int32) (S : Mem), F_X6_type_J16 v0 v1 v3 s0 S = some S' → Run g l uX6_type (fin g uX6_type cvV S') 16 [(0, .ref v0), (1, .long v1), (3, .int v3)] [.int s0] 0 0 S := by
  intro v0 v1 v3 s0 S h
  unfold F_X6_type_J16 at h
  refine r_istore (lv' := [(4, .int s0), (0, .ref v0), (1, .long v1), (3, .int v3)]) dX6_type_16 (by decide) rfl ?_
  refine r_aload_n dX6_type_18 rfl 1 rfl ?_
  refine r_iload dX6_type_19 0 rfl ?_
  refine r_iload dX6_type_21 0 rfl ?_
  refine r_if_ne (tgt := 41) dX6_type_23 (by decide) (fun c11 => ?_) (fun c11 => ?_)
  · rw [if_neg c11] at h
    refine r_sub [1, 2, 3] rfl ?_
    exact T_X6_type_J41 hl v0 v1 v3 v0 s0 S h
  · rw [if_pos c11] at h
    refine r_aload_n dX6_type_26 rfl 1 rfl ?_
    obtain ⟨t12, h0, h⟩ := bd h
    refine q_getI h0 dX6_type_27 fl6_136 rfl ?_
    refine r_iload_n dX6_type_30 rfl 3 rfl ?_
    refine r_iadd dX6_type_31 ?_
    refine r_bipush (v := (120 : Int32)) dX6_type_32 (by decide) ?_
    refine r_icmp_le (tgt := 41) dX6_type_34 (by decide) (fun c13 => ?_) (fun c13 => ?_)
    · rw [if_pos c13] at h
      refine r_sub [1, 2, 3] rfl ?_
      exact T_X6_type_J41 hl v0 v1 v3 v0 s0 S h
    · rw [if_neg c13] at h
      refine r_iconst (v := (1 : Int32)) dX6_type_37 (by decide) ?_
      refine r_goto (tgt := 42) dX6_type_38 (by decide) ?_
      refine r_sub [1, 2, 3] rfl ?_
      exact T_X6_type_J42 hl v0 v1 v3 v0 s0 (1 : Int32) S h

def F_X6_type_J11 (v0 : Nat) (v1 : Int64) (v3 : Int32) (S : Mem) : Option Mem :=
    F_X6_type_J16 v0 v1 v3 (1 : Int32) S
set_option maxRecDepth 100000 in
theorem T_X6_type_J11 {g : GG} {l : Launch} (hl : l.stackTraces = false) {S' : Mem}  : ∀ (v0 : Nat) (v1 : Int64) (v3 : Int32) (S : Mem), F_X6_type_J11 v0 v1 v3 S = some S' → Run g l uX6_type (fin g uX6_type cvV S') 11 [(0, .ref v0), (1, .long v1), (3, .int v3)] [] 0 0 S := by
  intro v0 v1 v3 S h
  unfold F_X6_type_J11 at h
  refine r_iconst (v := (1 : Int32)) dX6_type_11 (by decide) ?_
  refine r_goto (tgt := 16) dX6_type_12 (by decide) ?_
  exact T_X6_type_J16 hl v0 v1 v3 (1 : Int32) S h

def F_X6_type (v0 : Nat) (v1 : Int64) (v3 : Int32) (S : Mem) : Option Mem :=
    if v3 < (1 : Int32) then
      F_X6_type_J11 v0 v1 v3 S
    else
      if v3 ≤ (8 : Int32) then
        F_X6_type_J16 v0 v1 v3 (0 : Int32) S
      else
        F_X6_type_J11 v0 v1 v3 S
set_option maxRecDepth 100000 in
theorem T_X6_type {g : GG} {l : Launch} (hl : l.stackTraces = false) {v0 : Nat} {v1 : Int64} {v3 : Int32} {S S' : Mem} (h : F_X6_type v0 v1 v3 S = some S') : Call g l uX6_type [.ref v0, .long v1, .int v3] S cvV S' := by
  refine call_of (by decide +kernel) hl rfl (Nat.le_of_ble_eq_true rfl) ?_
  show Run g l uX6_type _ 0 [(0, .ref v0), (1, .long v1), (3, .int v3)] [] 0 0 S
  unfold F_X6_type at h
  refine r_iload_n dX6_type_0 rfl 2 rfl ?_
  refine r_iconst (v := (1 : Int32)) dX6_type_1 (by decide) ?_
  refine r_icmp_lt (tgt := 11) dX6_type_2 (by decide) (fun c14 => ?_) (fun c14 => ?_)
  · rw [if_pos c14] at h
    exact T_X6_type_J11 hl v0 v1 v3 S h
  · rw [if_neg c14] at h
    refine r_iload_n dX6_type_5 rfl 2 rfl ?_
    refine r_bipush (v := (8 : Int32)) dX6_type_6 (by decide) ?_
    refine r_icmp_le (tgt := 15) dX6_type_8 (by decide) (fun c15 => ?_) (fun c15 => ?_)
    · rw [if_pos c15] at h
      refine r_iconst (v := (0 : Int32)) dX6_type_15 (by decide) ?_
      exact T_X6_type_J16 hl v0 v1 v3 (0 : Int32) S h
    · rw [if_neg c15] at h
      exact T_X6_type_J11 hl v0 v1 v3 S h

def F_X6_byteAt (v0 : Nat) (v1 : Int32) (S : Mem) : Option (Int32 × Mem) :=
    (pgI 6 9 S v0).bind fun t1 =>
    if t1 ≤ v1 then
      some ((0 : Int32), S)
    else
      (pgR 6 8 S v0).bind fun t3 =>
      (paI S t3 v1).bind fun t4 =>
      some (t4, S)
set_option maxRecDepth 100000 in
theorem T_X6_byteAt {g : GG} {l : Launch} (hl : l.stackTraces = false) {v0 : Nat} {v1 : Int32} {S S' : Mem} {r : Int32} (h : F_X6_byteAt v0 v1 S = some (r, S')) : Call g l uX6_byteAt [.ref v0, .int v1] S (cvI r) S' := by
  refine call_of (by decide +kernel) hl rfl (Nat.le_of_ble_eq_true rfl) ?_
  show Run g l uX6_byteAt _ 0 [(0, .ref v0), (1, .int v1)] [] 0 0 S
  unfold F_X6_byteAt at h
  refine r_iload_n dX6_byteAt_0 rfl 1 rfl ?_
  refine r_aload_n dX6_byteAt_1 rfl 0 rfl ?_
  obtain ⟨t1, h0, h⟩ := bd h
  refine q_getI h0 dX6_byteAt_2 fl6_136 rfl ?_
  refine r_icmp_ge (tgt := 17) dX6_byteAt_5 (by decide) (fun c2 => ?_) (fun c2 => ?_)
  · rw [if_pos c2] at h
    refine r_iconst (v := (0 : Int32)) dX6_byteAt_17 (by decide) ?_
    cases h
    exact r_ireturn dX6_byteAt_18 rfl rfl (by decide) (by decide)
  · rw [if_neg c2] at h
    refine r_aload_n dX6_byteAt_8 rfl 0 rfl ?_
    obtain ⟨t3, h0, h⟩ := bd h
    refine q_getR h0 dX6_byteAt_9 fl6_19 rfl ?_
    refine r_iload_n dX6_byteAt_12 rfl 1 rfl ?_
    obtain ⟨t4, h0, h⟩ := bd h
    refine q_iaload h0 dX6_byteAt_13 ?_
    refine r_goto (tgt := 18) dX6_byteAt_14 (by decide) ?_
    cases h
    exact r_ireturn dX6_byteAt_18 rfl rfl (by decide) (by decide)

def F_X6_twoAt (v0 : Nat) (v1 : Int32) (S : Mem) : Option (Int32 × Mem) :=
    (pk 6 S v0).bind fun _ =>
    bd2 (F_X6_byteAt v0 v1 S) fun t2 S3 =>
    (pk 6 S3 v0).bind fun _ =>
    bd2 (F_X6_byteAt v0 (v1 + (1 : Int32)) S3) fun t5 S6 =>
    some (t2 + ((256 : Int32) * t5), S6)
set_option maxRecDepth 100000 in
theorem T_X6_twoAt {g : GG} {l : Launch} (hl : l.stackTraces = false) {v0 : Nat} {v1 : Int32} {S S' : Mem} {r : Int32} (h : F_X6_twoAt v0 v1 S = some (r, S')) : Call g l uX6_twoAt [.ref v0, .int v1] S (cvI r) S' := by
  refine call_of (by decide +kernel) hl rfl (Nat.le_of_ble_eq_true rfl) ?_
  show Run g l uX6_twoAt _ 0 [(0, .ref v0), (1, .int v1)] [] 0 0 S
  unfold F_X6_twoAt at h
  refine r_aload_n dX6_twoAt_0 rfl 0 rfl ?_
  refine r_iload_n dX6_twoAt_1 rfl 1 rfl ?_
  obtain ⟨z1, hk, h⟩ := bd h
  obtain ⟨t2, S3, h0, h⟩ := bd2_s h
  refine r_invV (As := [.int v1]) (st := []) dX6_twoAt_2 lv6_141 (by unfold RM; decide) (Nat.le_of_ble_eq_true rfl) rfl rfl (pk_ok hk) (T_X6_byteAt hl h0) ?_
  refine r_sipush (v := (256 : Int32)) dX6_twoAt_5 (by decide) ?_
  refine r_aload_n dX6_twoAt_8 rfl 0 rfl ?_
  refine r_iload_n dX6_twoAt_9 rfl 1 rfl ?_
  refine r_iconst (v := (1 : Int32)) dX6_twoAt_10 (by decide) ?_
  refine r_iadd dX6_twoAt_11 ?_
  obtain ⟨z4, hk, h⟩ := bd h
  obtain ⟨t5, S6, h0, h⟩ := bd2_s h
  refine r_invV (As := [.int (v1 + (1 : Int32))]) (st := [.int ((256 : Int32)), .int t2]) dX6_twoAt_12 lv6_141 (by unfold RM; decide) (Nat.le_of_ble_eq_true rfl) rfl rfl (pk_ok hk) (T_X6_byteAt hl h0) ?_
  refine r_imul dX6_twoAt_15 ?_
  refine r_iadd dX6_twoAt_16 ?_
  cases h
  exact r_ireturn dX6_twoAt_17 rfl rfl (by decide) (by decide)

def F_X6_readRow_J65 (K22 : Nat → Int32 → Int32 → Int32 → Int32 → Int32 → Mem → Option (Int32 × Mem)) (v0 : Nat) (v1 : Int32) (v2 : Int32) (v3 : Int32) (v4 : Int32) (v5 : Int32) (s0 : Nat) (s1 : Int32) (s2 : Int32) (s3 : Int32) (S : Mem) : Option (Int32 × Mem) :=
    (pk 6 S s0).bind fun _ =>
    (F_X6_put s0 s1 s2 s3 S).bind fun S3 =>
    K22 v0 v1 v2 v3 v4 (v5 + 1) S3
set_option maxRecDepth 100000 in
theorem T_X6_readRow_J65 {g : GG} {l : Launch} (hl : l.stackTraces = false) {S' : Mem} {r : Int32}  {K22 : Nat → Int32 → Int32 → Int32 → Int32 → Int32 → Mem → Option (Int32 × Mem)} (hK22 : ∀ (v0 : Nat) (v1 : Int32) (v2 : Int32) (v3 : Int32) (v4 : Int32) (v5 : Int32) (S : Mem), K22 v0 v1 v2 v3 v4 v5 S = some (r, S') → Run g l uX6_readRow (fin g uX6_readRow (cvI r) S') 22 [(0, .ref v0), (1, .int v1), (2, .int v2), (3, .int v3), (4, .int v4), (5, .int v5)] [] 0 0 S) : ∀ (v0 : Nat) (v1 : Int32) (v2 : Int32) (v3 : Int32) (v4 : Int32) (v5 : Int32) (s0 : Nat) (s1 : Int32) (s2 : Int32) (s3 : Int32) (S : Mem), F_X6_readRow_J65 K22 v0 v1 v2 v3 v4 v5 s0 s1 s2 s3 S = some (r, S') → Run g l uX6_readRow (fin g uX6_readRow (cvI r) S') 65 [(0, .ref v0), (1, .int v1), (2, .int v2), (3, .int v3), (4, .int v4), (5, .int v5)] [.int s3, .int s2, .int s1, .ref s0] 0 0 S := by
  intro v0 v1 v2 v3 v4 v5 s0 s1 s2 s3 S h
  unfold F_X6_readRow_J65 at h
  obtain ⟨z1, hk, h⟩ := bd h
  obtain ⟨S3, h0, h⟩ := bd h
  refine r_invV (As := [.int s1, .int s2, .int s3]) (st := []) dX6_readRow_65 lv6_29 (by unfold RM; decide) (Nat.le_of_ble_eq_true rfl) rfl rfl (pk_ok hk) (T_X6_put hl h0) ?_
  refine r_iinc (v := v5 + 1) (lv' := [(5, .int (v5 + 1)), (0, .ref v0), (1, .int v1), (2, .int v2), (3, .int v3), (4, .int v4)]) dX6_readRow_68 5 rfl rfl (by decide) rfl ?_
  refine r_goto (tgt := 22) dX6_readRow_71 (by decide) ?_
  refine r_sub [1, 2, 3, 4, 5, 0] rfl ?_
  exact hK22 v0 v1 v2 v3 v4 (v5 + 1) S3 h

def F_X6_readRow_L22 : Nat → Nat → Int32 → Int32 → Int32 → Int32 → Int32 → Mem → Option (Int32 × Mem)
  | 0, _, _, _, _, _, _, _ => none
  | fu + 1, v0, v1, v2, v3, v4, v5, S =>
    if v3 ≤ v5 then
      if v4 = 0 then
        some ((v1 + (1 : Int32)) + v3, S)
      else
        some ((v1 + (1 : Int32)) + ((2 : Int32) * v3), S)
    else
      if v4 = 0 then
        (pk 6 S v0).bind fun _ =>
        bd2 (F_X6_byteAt v0 ((v1 + (1 : Int32)) + v5) S) fun t8 S9 =>
        F_X6_readRow_J65 (F_X6_readRow_L22 fu) v0 v1 v2 v3 v4 v5 v0 (25 : Int32) (v2 + v5) t8 S9
      else
        (pk 6 S v0).bind fun _ =>
        bd2 (F_X6_twoAt v0 ((v1 + (1 : Int32)) + ((2 : Int32) * v5)) S) fun t11 S12 =>
        F_X6_readRow_J65 (F_X6_readRow_L22 fu) v0 v1 v2 v3 v4 v5 v0 (25 : Int32) (v2 + v5) t11 S12
set_option maxRecDepth 100000 in
theorem T_X6_readRow_L22 {g : GG} {l : Launch} (hl : l.stackTraces = false) {S' : Mem} {r : Int32}  : ∀ (fu : Nat) (v0 : Nat) (v1 : Int32) (v2 : Int32) (v3 : Int32) (v4 : Int32) (v5 : Int32) (S : Mem), F_X6_readRow_L22 fu v0 v1 v2 v3 v4 v5 S = some (r, S') → Run g l uX6_readRow (fin g uX6_readRow (cvI r) S') 22 [(0, .ref v0), (1, .int v1), (2, .int v2), (3, .int v3), (4, .int v4), (5, .int v5)] [] 0 0 S := by
  intro fu
  induction fu with
  | zero =>
    intro v0 v1 v2 v3 v4 v5 S h
    cases (show none = some _ from h)
  | succ fu ih =>
    intro v0 v1 v2 v3 v4 v5 S h
    unfold F_X6_readRow_L22 at h
    refine r_iload dX6_readRow_22 5 rfl ?_
    refine r_iload_n dX6_readRow_24 rfl 3 rfl ?_
    refine r_icmp_ge (tgt := 74) dX6_readRow_25 (by decide) (fun c4 => ?_) (fun c4 => ?_)
    · rw [if_pos c4] at h
      refine r_iload_n dX6_readRow_74 rfl 1 rfl ?_
      refine r_iconst (v := (1 : Int32)) dX6_readRow_75 (by decide) ?_
      refine r_iadd dX6_readRow_76 ?_
      refine r_iload dX6_readRow_77 4 rfl ?_
      refine r_if_eq (tgt := 88) dX6_readRow_79 (by decide) (fun c5 => ?_) (fun c5 => ?_)
      · rw [if_pos c5] at h
        refine r_iload_n dX6_readRow_88 rfl 3 rfl ?_
        refine r_iadd dX6_readRow_89 ?_
        cases h
        exact r_ireturn dX6_readRow_90 rfl rfl (by decide) (by decide)
      · rw [if_neg c5] at h
        refine r_iconst (v := (2 : Int32)) dX6_readRow_82 (by decide) ?_
        refine r_iload_n dX6_readRow_83 rfl 3 rfl ?_
        refine r_imul dX6_readRow_84 ?_
        refine r_goto (tgt := 89) dX6_readRow_85 (by decide) ?_
        refine r_iadd dX6_readRow_89 ?_
        cases h
        exact r_ireturn dX6_readRow_90 rfl rfl (by decide) (by decide)
    · rw [if_neg c4] at h
      refine r_aload_n dX6_readRow_28 rfl 0 rfl ?_
      refine r_bipush (v := (25 : Int32)) dX6_readRow_29 (by decide) ?_
      refine r_iload_n dX6_readRow_31 rfl 2 rfl ?_
      refine r_iload dX6_readRow_32 5 rfl ?_
      refine r_iadd dX6_readRow_34 ?_
      refine r_iload dX6_readRow_35 4 rfl ?_
      refine r_if_eq (tgt := 55) dX6_readRow_37 (by decide) (fun c6 => ?_) (fun c6 => ?_)
      · rw [if_pos c6] at h
        refine r_aload_n dX6_readRow_55 rfl 0 rfl ?_
        refine r_iload_n dX6_readRow_56 rfl 1 rfl ?_
        refine r_iconst (v := (1 : Int32)) dX6_readRow_57 (by decide) ?_
        refine r_iadd dX6_readRow_58 ?_
        refine r_iload dX6_readRow_59 5 rfl ?_
        refine r_iadd dX6_readRow_61 ?_
        obtain ⟨z7, hk, h⟩ := bd h
        obtain ⟨t8, S9, h0, h⟩ := bd2_s h
        refine r_invV (As := [.int ((v1 + (1 : Int32)) + v5)]) (st := [.int (v2 + v5), .int ((25 : Int32)), .ref v0]) dX6_readRow_62 lv6_141 (by unfold RM; decide) (Nat.le_of_ble_eq_true rfl) rfl rfl (pk_ok hk) (T_X6_byteAt hl h0) ?_
        exact T_X6_readRow_J65 hl (fun v0 v1 v2 v3 v4 v5 S h => ih v0 v1 v2 v3 v4 v5 S h) v0 v1 v2 v3 v4 v5 v0 (25 : Int32) (v2 + v5) t8 S9 h
      · rw [if_neg c6] at h
        refine r_aload_n dX6_readRow_40 rfl 0 rfl ?_
        refine r_iload_n dX6_readRow_41 rfl 1 rfl ?_
        refine r_iconst (v := (1 : Int32)) dX6_readRow_42 (by decide) ?_
        refine r_iadd dX6_readRow_43 ?_
        refine r_iconst (v := (2 : Int32)) dX6_readRow_44 (by decide) ?_
        refine r_iload dX6_readRow_45 5 rfl ?_
        refine r_imul dX6_readRow_47 ?_
        refine r_iadd dX6_readRow_48 ?_
        obtain ⟨z10, hk, h⟩ := bd h
        obtain ⟨t11, S12, h0, h⟩ := bd2_s h
        refine r_invV (As := [.int ((v1 + (1 : Int32)) + ((2 : Int32) * v5))]) (st := [.int (v2 + v5), .int ((25 : Int32)), .ref v0]) dX6_readRow_49 lv6_144 (by unfold RM; decide) (Nat.le_of_ble_eq_true rfl) rfl rfl (pk_ok hk) (T_X6_twoAt hl h0) ?_
        refine r_goto (tgt := 65) dX6_readRow_52 (by decide) ?_
        exact T_X6_readRow_J65 hl (fun v0 v1 v2 v3 v4 v5 S h => ih v0 v1 v2 v3 v4 v5 S h) v0 v1 v2 v3 v4 v5 v0 (25 : Int32) (v2 + v5) t11 S12 h

def F_X6_readRow_J17 (v0 : Nat) (v1 : Int32) (v2 : Int32) (v3 : Int32) (s0 : Int32) (S : Mem) : Option (Int32 × Mem) :=
    F_X6_readRow_L22 FU v0 v1 v2 v3 s0 (0 : Int32) S
set_option maxRecDepth 100000 in
theorem T_X6_readRow_J17 {g : GG} {l : Launch} (hl : l.stackTraces = false) {S' : Mem} {r : Int32}  : ∀ (v0 : Nat) (v1 : Int32) (v2 : Int32) (v3 : Int32) (s0 : Int32) (S : Mem), F_X6_readRow_J17 v0 v1 v2 v3 s0 S = some (r, S') → Run g l uX6_readRow (fin g uX6_readRow (cvI r) S') 17 [(0, .ref v0), (1, .int v1), (2, .int v2), (3, .int v3)] [.int s0] 0 0 S := by
  intro v0 v1 v2 v3 s0 S h
  unfold F_X6_readRow_J17 at h
  refine r_istore (lv' := [(4, .int s0), (0, .ref v0), (1, .int v1), (2, .int v2), (3, .int v3)]) dX6_readRow_17 (by decide) rfl ?_
  refine r_iconst (v := (0 : Int32)) dX6_readRow_19 (by decide) ?_
  refine r_istore (lv' := [(5, .int ((0 : Int32))), (4, .int s0), (0, .ref v0), (1, .int v1), (2, .int v2), (3, .int v3)]) dX6_readRow_20 (by decide) rfl ?_
  refine r_sub [2, 3, 4, 5, 1, 0] rfl ?_
  exact T_X6_readRow_L22 hl FU v0 v1 v2 v3 s0 (0 : Int32) S h

def F_X6_readRow (v0 : Nat) (v1 : Int32) (v2 : Int32) (v3 : Int32) (S : Mem) : Option (Int32 × Mem) :=
    (pk 6 S v0).bind fun _ =>
    bd2 (F_X6_byteAt v0 v1 S) fun t14 S15 =>
    if (t14 &&& (15 : Int32)) = (2 : Int32) then
      F_X6_readRow_J17 v0 v1 v2 v3 (1 : Int32) S15
    else
      F_X6_readRow_J17 v0 v1 v2 v3 (0 : Int32) S15
set_option maxRecDepth 100000 in
theorem T_X6_readRow {g : GG} {l : Launch} (hl : l.stackTraces = false) {v0 : Nat} {v1 : Int32} {v2 : Int32} {v3 : Int32} {S S' : Mem} {r : Int32} (h : F_X6_readRow v0 v1 v2 v3 S = some (r, S')) : Call g l uX6_readRow [.ref v0, .int v1, .int v2, .int v3] S (cvI r) S' := by
  refine call_of (by decide +kernel) hl rfl (Nat.le_of_ble_eq_true rfl) ?_
  show Run g l uX6_readRow _ 0 [(0, .ref v0), (1, .int v1), (2, .int v2), (3, .int v3)] [] 0 0 S
  unfold F_X6_readRow at h
  refine r_aload_n dX6_readRow_0 rfl 0 rfl ?_
  refine r_iload_n dX6_readRow_1 rfl 1 rfl ?_
  obtain ⟨z13, hk, h⟩ := bd h
  obtain ⟨t14, S15, h0, h⟩ := bd2_s h
  refine r_invV (As := [.int v1]) (st := []) dX6_readRow_2 lv6_141 (by unfold RM; decide) (Nat.le_of_ble_eq_true rfl) rfl rfl (pk_ok hk) (T_X6_byteAt hl h0) ?_
  refine r_bipush (v := (15 : Int32)) dX6_readRow_5 (by decide) ?_
  refine r_iand dX6_readRow_7 ?_
  refine r_iconst (v := (2 : Int32)) dX6_readRow_8 (by decide) ?_
  refine r_icmp_ne (tgt := 16) dX6_readRow_9 (by decide) (fun c16 => ?_) (fun c16 => ?_)
  · rw [if_neg c16] at h
    refine r_iconst (v := (0 : Int32)) dX6_readRow_16 (by decide) ?_
    exact T_X6_readRow_J17 hl v0 v1 v2 v3 (0 : Int32) S15 h
  · rw [if_pos c16] at h
    refine r_iconst (v := (1 : Int32)) dX6_readRow_12 (by decide) ?_
    refine r_goto (tgt := 17) dX6_readRow_13 (by decide) ?_
    exact T_X6_readRow_J17 hl v0 v1 v2 v3 (1 : Int32) S15 h

def F_X6_baseOf (v0 : Int32) (S : Mem) : Option (Int32 × Mem) :=
    if v0 = (67 : Int32) then
      some ((1 : Int32), S)
    else
      if v0 = (71 : Int32) then
        some ((2 : Int32), S)
      else
        if v0 = (84 : Int32) then
          some ((3 : Int32), S)
        else
          some ((0 : Int32), S)
set_option maxRecDepth 100000 in
theorem T_X6_baseOf {g : GG} {l : Launch} (hl : l.stackTraces = false) {v0 : Int32} {S S' : Mem} {r : Int32} (h : F_X6_baseOf v0 S = some (r, S')) : Call g l uX6_baseOf [.int v0] S (cvI r) S' := by
  refine call_of (by decide +kernel) hl rfl (Nat.le_of_ble_eq_true rfl) ?_
  show Run g l uX6_baseOf _ 0 [(0, .int v0)] [] 0 0 S
  unfold F_X6_baseOf at h
  refine r_iload_n dX6_baseOf_0 rfl 0 rfl ?_
  refine r_bipush (v := (67 : Int32)) dX6_baseOf_1 (by decide) ?_
  refine r_icmp_ne (tgt := 10) dX6_baseOf_3 (by decide) (fun c1 => ?_) (fun c1 => ?_)
  · rw [if_neg c1] at h
    refine r_iload_n dX6_baseOf_10 rfl 0 rfl ?_
    refine r_bipush (v := (71 : Int32)) dX6_baseOf_11 (by decide) ?_
    refine r_icmp_ne (tgt := 20) dX6_baseOf_13 (by decide) (fun c2 => ?_) (fun c2 => ?_)
    · rw [if_neg c2] at h
      refine r_iload_n dX6_baseOf_20 rfl 0 rfl ?_
      refine r_bipush (v := (84 : Int32)) dX6_baseOf_21 (by decide) ?_
      refine r_icmp_ne (tgt := 30) dX6_baseOf_23 (by decide) (fun c3 => ?_) (fun c3 => ?_)
      · rw [if_neg c3] at h
        refine r_iconst (v := (0 : Int32)) dX6_baseOf_30 (by decide) ?_
        cases h
        exact r_ireturn dX6_baseOf_31 rfl rfl (by decide) (by decide)
      · rw [if_pos c3] at h
        refine r_iconst (v := (3 : Int32)) dX6_baseOf_26 (by decide) ?_
        refine r_goto (tgt := 31) dX6_baseOf_27 (by decide) ?_
        cases h
        exact r_ireturn dX6_baseOf_31 rfl rfl (by decide) (by decide)
    · rw [if_pos c2] at h
      refine r_iconst (v := (2 : Int32)) dX6_baseOf_16 (by decide) ?_
      refine r_goto (tgt := 31) dX6_baseOf_17 (by decide) ?_
      cases h
      exact r_ireturn dX6_baseOf_31 rfl rfl (by decide) (by decide)
  · rw [if_pos c1] at h
    refine r_iconst (v := (1 : Int32)) dX6_baseOf_6 (by decide) ?_
    refine r_goto (tgt := 31) dX6_baseOf_7 (by decide) ?_
    cases h
    exact r_ireturn dX6_baseOf_31 rfl rfl (by decide) (by decide)

def F_X6_inRange_J172 (K82 : Nat → Int32 → Int32 → Int32 → Mem → Option (Int32 × Mem)) (K134 : Nat → Int32 → Int32 → Int32 → Int32 → Mem → Option (Int32 × Mem)) (v0 : Nat) (v1 : Int32) (v3 : Int32) (v4 : Int32) (s0 : Int32) (S : Mem) : Option (Int32 × Mem) :=
    K134 v0 v1 s0 v3 (v4 + 1) S
set_option maxRecDepth 100000 in
theorem T_X6_inRange_J172 {g : GG} {l : Launch} (hl : l.stackTraces = false) {S' : Mem} {r : Int32}  {K82 : Nat → Int32 → Int32 → Int32 → Mem → Option (Int32 × Mem)} {K134 : Nat → Int32 → Int32 → Int32 → Int32 → Mem → Option (Int32 × Mem)} (hK82 : ∀ (v0 : Nat) (v1 : Int32) (v2 : Int32) (v3 : Int32) (S : Mem), K82 v0 v1 v2 v3 S = some (r, S') → Run g l uX6_inRange (fin g uX6_inRange (cvI r) S') 82 [(0, .ref v0), (1, .int v1), (2, .int v2), (3, .int v3)] [] 0 0 S) (hK134 : ∀ (v0 : Nat) (v1 : Int32) (v2 : Int32) (v3 : Int32) (v4 : Int32) (S : Mem), K134 v0 v1 v2 v3 v4 S = some (r, S') → Run g l uX6_inRange (fin g uX6_inRange (cvI r) S') 134 [(0, .ref v0), (1, .int v1), (2, .int v2), (3, .int v3), (4, .int v4)] [] 0 0 S) : ∀ (v0 : Nat) (v1 : Int32) (v3 : Int32) (v4 : Int32) (s0 : Int32) (S : Mem), F_X6_inRange_J172 K82 K134 v0 v1 v3 v4 s0 S = some (r, S') → Run g l uX6_inRange (fin g uX6_inRange (cvI r) S') 172 [(0, .ref v0), (1, .int v1), (3, .int v3), (4, .int v4)] [.int s0] 0 0 S := by
  intro v0 v1 v3 v4 s0 S h
  unfold F_X6_inRange_J172 at h
  refine r_istore_n (lv' := [(2, .int s0), (0, .ref v0), (1, .int v1), (3, .int v3), (4, .int v4)]) dX6_inRange_172 rfl (by decide) rfl ?_
  refine r_iinc (v := v4 + 1) (lv' := [(4, .int (v4 + 1)), (2, .int s0), (0, .ref v0), (1, .int v1), (3, .int v3)]) dX6_inRange_173 4 rfl rfl (by decide) rfl ?_
  refine r_goto (tgt := 134) dX6_inRange_176 (by decide) ?_
  refine r_sub [2, 3, 1, 4, 0] rfl ?_
  exact hK134 v0 v1 s0 v3 (v4 + 1) S h

def F_X6_inRange_J171 (K82 : Nat → Int32 → Int32 → Int32 → Mem → Option (Int32 × Mem)) (K134 : Nat → Int32 → Int32 → Int32 → Int32 → Mem → Option (Int32 × Mem)) (v0 : Nat) (v1 : Int32) (v3 : Int32) (v4 : Int32) (S : Mem) : Option (Int32 × Mem) :=
    F_X6_inRange_J172 K82 K134 v0 v1 v3 v4 (0 : Int32) S
set_option maxRecDepth 100000 in
theorem T_X6_inRange_J171 {g : GG} {l : Launch} (hl : l.stackTraces = false) {S' : Mem} {r : Int32}  {K82 : Nat → Int32 → Int32 → Int32 → Mem → Option (Int32 × Mem)} {K134 : Nat → Int32 → Int32 → Int32 → Int32 → Mem → Option (Int32 × Mem)} (hK82 : ∀ (v0 : Nat) (v1 : Int32) (v2 : Int32) (v3 : Int32) (S : Mem), K82 v0 v1 v2 v3 S = some (r, S') → Run g l uX6_inRange (fin g uX6_inRange (cvI r) S') 82 [(0, .ref v0), (1, .int v1), (2, .int v2), (3, .int v3)] [] 0 0 S) (hK134 : ∀ (v0 : Nat) (v1 : Int32) (v2 : Int32) (v3 : Int32) (v4 : Int32) (S : Mem), K134 v0 v1 v2 v3 v4 S = some (r, S') → Run g l uX6_inRange (fin g uX6_inRange (cvI r) S') 134 [(0, .ref v0), (1, .int v1), (2, .int v2), (3, .int v3), (4, .int v4)] [] 0 0 S) : ∀ (v0 : Nat) (v1 : Int32) (v3 : Int32) (v4 : Int32) (S : Mem), F_X6_inRange_J171 K82 K134 v0 v1 v3 v4 S = some (r, S') → Run g l uX6_inRange (fin g uX6_inRange (cvI r) S') 171 [(0, .ref v0), (1, .int v1), (3, .int v3), (4, .int v4)] [] 0 0 S := by
  intro v0 v1 v3 v4 S h
  unfold F_X6_inRange_J171 at h
  refine r_iconst (v := (0 : Int32)) dX6_inRange_171 (by decide) ?_
  exact T_X6_inRange_J172 hl hK82 hK134 v0 v1 v3 v4 (0 : Int32) S h

def F_X6_inRange_L134 (K82 : Nat → Int32 → Int32 → Int32 → Mem → Option (Int32 × Mem)) : Nat → Nat → Int32 → Int32 → Int32 → Int32 → Mem → Option (Int32 × Mem)
  | 0, _, _, _, _, _, _ => none
  | fu + 1, v0, v1, v2, v3, v4, S =>
    if (10 : Int32) ≤ v4 then
      K82 v0 v1 v2 (v3 + 1) S
    else
      if v2 = 0 then
        F_X6_inRange_J171 K82 (F_X6_inRange_L134 K82 fu) v0 v1 v3 v4 S
      else
        (pk 6 S v0).bind fun _ =>
        bd2 (F_X6_get v0 (25 : Int32) (((21 : Int32) + ((10 : Int32) * v3)) + v4) S) fun t4 S5 =>
        if (999 : Int32) < t4 then
          F_X6_inRange_J171 K82 (F_X6_inRange_L134 K82 fu) v0 v1 v3 v4 S5
        else
          F_X6_inRange_J172 K82 (F_X6_inRange_L134 K82 fu) v0 v1 v3 v4 (1 : Int32) S5
set_option maxRecDepth 100000 in
theorem T_X6_inRange_L134 {g : GG} {l : Launch} (hl : l.stackTraces = false) {S' : Mem} {r : Int32}  {K82 : Nat → Int32 → Int32 → Int32 → Mem → Option (Int32 × Mem)} (hK82 : ∀ (v0 : Nat) (v1 : Int32) (v2 : Int32) (v3 : Int32) (S : Mem), K82 v0 v1 v2 v3 S = some (r, S') → Run g l uX6_inRange (fin g uX6_inRange (cvI r) S') 82 [(0, .ref v0), (1, .int v1), (2, .int v2), (3, .int v3)] [] 0 0 S) : ∀ (fu : Nat) (v0 : Nat) (v1 : Int32) (v2 : Int32) (v3 : Int32) (v4 : Int32) (S : Mem), F_X6_inRange_L134 K82 fu v0 v1 v2 v3 v4 S = some (r, S') → Run g l uX6_inRange (fin g uX6_inRange (cvI r) S') 134 [(0, .ref v0), (1, .int v1), (2, .int v2), (3, .int v3), (4, .int v4)] [] 0 0 S := by
  intro fu
  induction fu with
  | zero =>
    intro v0 v1 v2 v3 v4 S h
    cases (show none = some _ from h)
  | succ fu ih =>
    intro v0 v1 v2 v3 v4 S h
    unfold F_X6_inRange_L134 at h
    refine r_iload dX6_inRange_134 4 rfl ?_
    refine r_bipush (v := (10 : Int32)) dX6_inRange_136 (by decide) ?_
    refine r_icmp_ge (tgt := 179) dX6_inRange_138 (by decide) (fun c1 => ?_) (fun c1 => ?_)
    · rw [if_pos c1] at h
      refine r_iinc (v := v3 + 1) (lv' := [(3, .int (v3 + 1)), (0, .ref v0), (1, .int v1), (2, .int v2), (4, .int v4)]) dX6_inRange_179 3 rfl rfl (by decide) rfl ?_
      refine r_goto (tgt := 82) dX6_inRange_182 (by decide) ?_
      refine r_sub [1, 2, 3, 0] rfl ?_
      exact hK82 v0 v1 v2 (v3 + 1) S h
    · rw [if_neg c1] at h
      refine r_iload_n dX6_inRange_141 rfl 2 rfl ?_
      refine r_if_eq (tgt := 171) dX6_inRange_142 (by decide) (fun c2 => ?_) (fun c2 => ?_)
      · rw [if_pos c2] at h
        refine r_sub [0, 1, 3, 4] rfl ?_
        exact T_X6_inRange_J171 hl hK82 (fun v0 v1 v2 v3 v4 S h => ih v0 v1 v2 v3 v4 S h) v0 v1 v3 v4 S h
      · rw [if_neg c2] at h
        refine r_aload_n dX6_inRange_145 rfl 0 rfl ?_
        refine r_bipush (v := (25 : Int32)) dX6_inRange_146 (by decide) ?_
        refine r_bipush (v := (21 : Int32)) dX6_inRange_148 (by decide) ?_
        refine r_bipush (v := (10 : Int32)) dX6_inRange_150 (by decide) ?_
        refine r_iload_n dX6_inRange_152 rfl 3 rfl ?_
        refine r_imul dX6_inRange_153 ?_
        refine r_iadd dX6_inRange_154 ?_
        refine r_iload dX6_inRange_155 4 rfl ?_
        refine r_iadd dX6_inRange_157 ?_
        obtain ⟨z3, hk, h⟩ := bd h
        obtain ⟨t4, S5, h0, h⟩ := bd2_s h
        refine r_invV (As := [.int ((25 : Int32)), .int (((21 : Int32) + ((10 : Int32) * v3)) + v4)]) (st := []) dX6_inRange_158 lv6_33 (by unfold RM; decide) (Nat.le_of_ble_eq_true rfl) rfl rfl (pk_ok hk) (T_X6_get hl h0) ?_
        refine r_sipush (v := (999 : Int32)) dX6_inRange_161 (by decide) ?_
        refine r_icmp_gt (tgt := 171) dX6_inRange_164 (by decide) (fun c6 => ?_) (fun c6 => ?_)
        · rw [if_pos c6] at h
          refine r_sub [0, 1, 3, 4] rfl ?_
          exact T_X6_inRange_J171 hl hK82 (fun v0 v1 v2 v3 v4 S h => ih v0 v1 v2 v3 v4 S h) v0 v1 v3 v4 S5 h
        · rw [if_neg c6] at h
          refine r_iconst (v := (1 : Int32)) dX6_inRange_167 (by decide) ?_
          refine r_goto (tgt := 172) dX6_inRange_168 (by decide) ?_
          refine r_sub [0, 1, 3, 4] rfl ?_
          exact T_X6_inRange_J172 hl hK82 (fun v0 v1 v2 v3 v4 S h => ih v0 v1 v2 v3 v4 S h) v0 v1 v3 v4 (1 : Int32) S5 h

def F_X6_inRange_J130 (K82 : Nat → Int32 → Int32 → Int32 → Mem → Option (Int32 × Mem)) (v0 : Nat) (v1 : Int32) (v3 : Int32) (s0 : Int32) (S : Mem) : Option (Int32 × Mem) :=
    F_X6_inRange_L134 K82 FU v0 v1 s0 v3 (0 : Int32) S
set_option maxRecDepth 100000 in
theorem T_X6_inRange_J130 {g : GG} {l : Launch} (hl : l.stackTraces = false) {S' : Mem} {r : Int32}  {K82 : Nat → Int32 → Int32 → Int32 → Mem → Option (Int32 × Mem)} (hK82 : ∀ (v0 : Nat) (v1 : Int32) (v2 : Int32) (v3 : Int32) (S : Mem), K82 v0 v1 v2 v3 S = some (r, S') → Run g l uX6_inRange (fin g uX6_inRange (cvI r) S') 82 [(0, .ref v0), (1, .int v1), (2, .int v2), (3, .int v3)] [] 0 0 S) : ∀ (v0 : Nat) (v1 : Int32) (v3 : Int32) (s0 : Int32) (S : Mem), F_X6_inRange_J130 K82 v0 v1 v3 s0 S = some (r, S') → Run g l uX6_inRange (fin g uX6_inRange (cvI r) S') 130 [(0, .ref v0), (1, .int v1), (3, .int v3)] [.int s0] 0 0 S := by
  intro v0 v1 v3 s0 S h
  unfold F_X6_inRange_J130 at h
  refine r_istore_n (lv' := [(2, .int s0), (0, .ref v0), (1, .int v1), (3, .int v3)]) dX6_inRange_130 rfl (by decide) rfl ?_
  refine r_iconst (v := (0 : Int32)) dX6_inRange_131 (by decide) ?_
  refine r_istore (lv' := [(4, .int ((0 : Int32))), (2, .int s0), (0, .ref v0), (1, .int v1), (3, .int v3)]) dX6_inRange_132 (by decide) rfl ?_
  refine r_sub [2, 3, 1, 4, 0] rfl ?_
  exact T_X6_inRange_L134 hl hK82 FU v0 v1 s0 v3 (0 : Int32) S h

def F_X6_inRange_J129 (K82 : Nat → Int32 → Int32 → Int32 → Mem → Option (Int32 × Mem)) (v0 : Nat) (v1 : Int32) (v3 : Int32) (S : Mem) : Option (Int32 × Mem) :=
    F_X6_inRange_J130 K82 v0 v1 v3 (0 : Int32) S
set_option maxRecDepth 100000 in
theorem T_X6_inRange_J129 {g : GG} {l : Launch} (hl : l.stackTraces = false) {S' : Mem} {r : Int32}  {K82 : Nat → Int32 → Int32 → Int32 → Mem → Option (Int32 × Mem)} (hK82 : ∀ (v0 : Nat) (v1 : Int32) (v2 : Int32) (v3 : Int32) (S : Mem), K82 v0 v1 v2 v3 S = some (r, S') → Run g l uX6_inRange (fin g uX6_inRange (cvI r) S') 82 [(0, .ref v0), (1, .int v1), (2, .int v2), (3, .int v3)] [] 0 0 S) : ∀ (v0 : Nat) (v1 : Int32) (v3 : Int32) (S : Mem), F_X6_inRange_J129 K82 v0 v1 v3 S = some (r, S') → Run g l uX6_inRange (fin g uX6_inRange (cvI r) S') 129 [(0, .ref v0), (1, .int v1), (3, .int v3)] [] 0 0 S := by
  intro v0 v1 v3 S h
  unfold F_X6_inRange_J129 at h
  refine r_iconst (v := (0 : Int32)) dX6_inRange_129 (by decide) ?_
  exact T_X6_inRange_J130 hl hK82 v0 v1 v3 (0 : Int32) S h

def F_X6_inRange_L82 : Nat → Nat → Int32 → Int32 → Int32 → Mem → Option (Int32 × Mem)
  | 0, _, _, _, _, _ => none
  | fu + 1, v0, v1, v2, v3, S =>
    if (2 : Int32) ≤ v3 then
      if v2 = 0 then
        some ((0 : Int32), S)
      else
        (pk 6 S v0).bind fun _ =>
        bd2 (F_X6_get v0 (25 : Int32) (0 : Int32) S) fun t10 S11 =>
        (pk 6 S11 v0).bind fun _ =>
        bd2 (F_X6_get v0 (25 : Int32) (2 : Int32) S11) fun t13 S14 =>
        (pk 6 S14 v0).bind fun _ =>
        bd2 (F_X6_referenceFrom v0 t10 t13 S14) fun t16 S17 =>
        (pk 6 S17 v0).bind fun _ =>
        bd2 (F_X6_get v0 (25 : Int32) (6 : Int32) S17) fun t19 S20 =>
        if t16 = t19 then
          some ((1 : Int32), S20)
        else
          some ((0 : Int32), S20)
    else
      if v2 = 0 then
        F_X6_inRange_J129 (F_X6_inRange_L82 fu) v0 v1 v3 S
      else
        (pk 6 S v0).bind fun _ =>
        bd2 (F_X6_get v0 (25 : Int32) ((15 : Int32) + ((3 : Int32) * v3)) S) fun t24 S25 =>
        if v1 ≤ t24 then
          F_X6_inRange_J129 (F_X6_inRange_L82 fu) v0 v1 v3 S25
        else
          (pk 6 S25 v0).bind fun _ =>
          bd2 (F_X6_get v0 (25 : Int32) (((15 : Int32) + ((3 : Int32) * v3)) + (1 : Int32)) S25) fun t28 S29 =>
          if v1 ≤ t28 then
            F_X6_inRange_J129 (F_X6_inRange_L82 fu) v0 v1 v3 S29
          else
            F_X6_inRange_J130 (F_X6_inRange_L82 fu) v0 v1 v3 (1 : Int32) S29
set_option maxRecDepth 100000 in
theorem T_X6_inRange_L82 {g : GG} {l : Launch} (hl : l.stackTraces = false) {S' : Mem} {r : Int32}  : ∀ (fu : Nat) (v0 : Nat) (v1 : Int32) (v2 : Int32) (v3 : Int32) (S : Mem), F_X6_inRange_L82 fu v0 v1 v2 v3 S = some (r, S') → Run g l uX6_inRange (fin g uX6_inRange (cvI r) S') 82 [(0, .ref v0), (1, .int v1), (2, .int v2), (3, .int v3)] [] 0 0 S := by
  intro fu
  induction fu with
  | zero =>
    intro v0 v1 v2 v3 S h
    cases (show none = some _ from h)
  | succ fu ih =>
    intro v0 v1 v2 v3 S h
    unfold F_X6_inRange_L82 at h
    refine r_iload_n dX6_inRange_82 rfl 3 rfl ?_
    refine r_iconst (v := (2 : Int32)) dX6_inRange_83 (by decide) ?_
    refine r_icmp_ge (tgt := 185) dX6_inRange_84 (by decide) (fun c7 => ?_) (fun c7 => ?_)
    · rw [if_pos c7] at h
      refine r_iload_n dX6_inRange_185 rfl 2 rfl ?_
      refine r_if_eq (tgt := 222) dX6_inRange_186 (by decide) (fun c8 => ?_) (fun c8 => ?_)
      · rw [if_pos c8] at h
        refine r_iconst (v := (0 : Int32)) dX6_inRange_222 (by decide) ?_
        cases h
        exact r_ireturn dX6_inRange_223 rfl (by decide) (by decide) (by decide)
      · rw [if_neg c8] at h
        refine r_aload_n dX6_inRange_189 rfl 0 rfl ?_
        refine r_aload_n dX6_inRange_190 rfl 0 rfl ?_
        refine r_bipush (v := (25 : Int32)) dX6_inRange_191 (by decide) ?_
        refine r_iconst (v := (0 : Int32)) dX6_inRange_193 (by decide) ?_
        obtain ⟨z9, hk, h⟩ := bd h
        obtain ⟨t10, S11, h0, h⟩ := bd2_s h
        refine r_invV (As := [.int ((25 : Int32)), .int ((0 : Int32))]) (st := [.ref v0]) dX6_inRange_194 lv6_33 (by unfold RM; decide) (Nat.le_of_ble_eq_true rfl) rfl rfl (pk_ok hk) (T_X6_get hl h0) ?_
        refine r_aload_n dX6_inRange_197 rfl 0 rfl ?_
        refine r_bipush (v := (25 : Int32)) dX6_inRange_198 (by decide) ?_
        refine r_iconst (v := (2 : Int32)) dX6_inRange_200 (by decide) ?_
        obtain ⟨z12, hk, h⟩ := bd h
        obtain ⟨t13, S14, h0, h⟩ := bd2_s h
        refine r_invV (As := [.int ((25 : Int32)), .int ((2 : Int32))]) (st := [.int t10, .ref v0]) dX6_inRange_201 lv6_33 (by unfold RM; decide) (Nat.le_of_ble_eq_true rfl) rfl rfl (pk_ok hk) (T_X6_get hl h0) ?_
        obtain ⟨z15, hk, h⟩ := bd h
        obtain ⟨t16, S17, h0, h⟩ := bd2_s h
        refine r_invV (As := [.int t10, .int t13]) (st := []) dX6_inRange_204 lv6_57 (by unfold RM; decide) (Nat.le_of_ble_eq_true rfl) rfl rfl (pk_ok hk) (T_X6_referenceFrom hl h0) ?_
        refine r_aload_n dX6_inRange_207 rfl 0 rfl ?_
        refine r_bipush (v := (25 : Int32)) dX6_inRange_208 (by decide) ?_
        refine r_bipush (v := (6 : Int32)) dX6_inRange_210 (by decide) ?_
        obtain ⟨z18, hk, h⟩ := bd h
        obtain ⟨t19, S20, h0, h⟩ := bd2_s h
        refine r_invV (As := [.int ((25 : Int32)), .int ((6 : Int32))]) (st := [.int t16]) dX6_inRange_212 lv6_33 (by unfold RM; decide) (Nat.le_of_ble_eq_true rfl) rfl rfl (pk_ok hk) (T_X6_get hl h0) ?_
        refine r_icmp_ne (tgt := 222) dX6_inRange_215 (by decide) (fun c21 => ?_) (fun c21 => ?_)
        · rw [if_neg c21] at h
          refine r_iconst (v := (0 : Int32)) dX6_inRange_222 (by decide) ?_
          cases h
          exact r_ireturn dX6_inRange_223 rfl (by decide) (by decide) (by decide)
        · rw [if_pos c21] at h
          refine r_iconst (v := (1 : Int32)) dX6_inRange_218 (by decide) ?_
          refine r_goto (tgt := 223) dX6_inRange_219 (by decide) ?_
          cases h
          exact r_ireturn dX6_inRange_223 rfl (by decide) (by decide) (by decide)
    · rw [if_neg c7] at h
      refine r_iload_n dX6_inRange_87 rfl 2 rfl ?_
      refine r_if_eq (tgt := 129) dX6_inRange_88 (by decide) (fun c22 => ?_) (fun c22 => ?_)
      · rw [if_pos c22] at h
        refine r_sub [0, 1, 3] rfl ?_
        exact T_X6_inRange_J129 hl (fun v0 v1 v2 v3 S h => ih v0 v1 v2 v3 S h) v0 v1 v3 S h
      · rw [if_neg c22] at h
        refine r_aload_n dX6_inRange_91 rfl 0 rfl ?_
        refine r_bipush (v := (25 : Int32)) dX6_inRange_92 (by decide) ?_
        refine r_bipush (v := (15 : Int32)) dX6_inRange_94 (by decide) ?_
        refine r_iconst (v := (3 : Int32)) dX6_inRange_96 (by decide) ?_
        refine r_iload_n dX6_inRange_97 rfl 3 rfl ?_
        refine r_imul dX6_inRange_98 ?_
        refine r_iadd dX6_inRange_99 ?_
        obtain ⟨z23, hk, h⟩ := bd h
        obtain ⟨t24, S25, h0, h⟩ := bd2_s h
        refine r_invV (As := [.int ((25 : Int32)), .int ((15 : Int32) + ((3 : Int32) * v3))]) (st := []) dX6_inRange_100 lv6_33 (by unfold RM; decide) (Nat.le_of_ble_eq_true rfl) rfl rfl (pk_ok hk) (T_X6_get hl h0) ?_
        refine r_iload_n dX6_inRange_103 rfl 1 rfl ?_
        refine r_icmp_ge (tgt := 129) dX6_inRange_104 (by decide) (fun c26 => ?_) (fun c26 => ?_)
        · rw [if_pos c26] at h
          refine r_sub [0, 1, 3] rfl ?_
          exact T_X6_inRange_J129 hl (fun v0 v1 v2 v3 S h => ih v0 v1 v2 v3 S h) v0 v1 v3 S25 h
        · rw [if_neg c26] at h
          refine r_aload_n dX6_inRange_107 rfl 0 rfl ?_
          refine r_bipush (v := (25 : Int32)) dX6_inRange_108 (by decide) ?_
          refine r_bipush (v := (15 : Int32)) dX6_inRange_110 (by decide) ?_
          refine r_iconst (v := (3 : Int32)) dX6_inRange_112 (by decide) ?_
          refine r_iload_n dX6_inRange_113 rfl 3 rfl ?_
          refine r_imul dX6_inRange_114 ?_
          refine r_iadd dX6_inRange_115 ?_
          refine r_iconst (v := (1 : Int32)) dX6_inRange_116 (by decide) ?_
          refine r_iadd dX6_inRange_117 ?_
          obtain ⟨z27, hk, h⟩ := bd h
          obtain ⟨t28, S29, h0, h⟩ := bd2_s h
          refine r_invV (As := [.int ((25 : Int32)), .int (((15 : Int32) + ((3 : Int32) * v3)) + (1 : Int32))]) (st := []) dX6_inRange_118 lv6_33 (by unfold RM; decide) (Nat.le_of_ble_eq_true rfl) rfl rfl (pk_ok hk) (T_X6_get hl h0) ?_
          refine r_iload_n dX6_inRange_121 rfl 1 rfl ?_
          refine r_icmp_ge (tgt := 129) dX6_inRange_122 (by decide) (fun c30 => ?_) (fun c30 => ?_)
          · rw [if_pos c30] at h
            refine r_sub [0, 1, 3] rfl ?_
            exact T_X6_inRange_J129 hl (fun v0 v1 v2 v3 S h => ih v0 v1 v2 v3 S h) v0 v1 v3 S29 h
          · rw [if_neg c30] at h
            refine r_iconst (v := (1 : Int32)) dX6_inRange_125 (by decide) ?_
            refine r_goto (tgt := 130) dX6_inRange_126 (by decide) ?_
            refine r_sub [0, 1, 3] rfl ?_
            exact T_X6_inRange_J130 hl (fun v0 v1 v2 v3 S h => ih v0 v1 v2 v3 S h) v0 v1 v3 (1 : Int32) S29 h

def F_X6_inRange_J73 (K43 : Nat → Int32 → Int32 → Int32 → Mem → Option (Int32 × Mem)) (v0 : Nat) (v1 : Int32) (v3 : Int32) (s0 : Int32) (S : Mem) : Option (Int32 × Mem) :=
    K43 v0 v1 s0 (v3 + 1) S
set_option maxRecDepth 100000 in
theorem T_X6_inRange_J73 {g : GG} {l : Launch} (hl : l.stackTraces = false) {S' : Mem} {r : Int32}  {K43 : Nat → Int32 → Int32 → Int32 → Mem → Option (Int32 × Mem)} (hK43 : ∀ (v0 : Nat) (v1 : Int32) (v2 : Int32) (v3 : Int32) (S : Mem), K43 v0 v1 v2 v3 S = some (r, S') → Run g l uX6_inRange (fin g uX6_inRange (cvI r) S') 43 [(0, .ref v0), (1, .int v1), (2, .int v2), (3, .int v3)] [] 0 0 S) : ∀ (v0 : Nat) (v1 : Int32) (v3 : Int32) (s0 : Int32) (S : Mem), F_X6_inRange_J73 K43 v0 v1 v3 s0 S = some (r, S') → Run g l uX6_inRange (fin g uX6_inRange (cvI r) S') 73 [(0, .ref v0), (1, .int v1), (3, .int v3)] [.int s0] 0 0 S := by
  intro v0 v1 v3 s0 S h
  unfold F_X6_inRange_J73 at h
  refine r_istore_n (lv' := [(2, .int s0), (0, .ref v0), (1, .int v1), (3, .int v3)]) dX6_inRange_73 rfl (by decide) rfl ?_
  refine r_iinc (v := v3 + 1) (lv' := [(3, .int (v3 + 1)), (2, .int s0), (0, .ref v0), (1, .int v1)]) dX6_inRange_74 3 rfl rfl (by decide) rfl ?_
  refine r_goto (tgt := 43) dX6_inRange_77 (by decide) ?_
  refine r_sub [2, 3, 1, 0] rfl ?_
  exact hK43 v0 v1 s0 (v3 + 1) S h

def F_X6_inRange_J72 (K43 : Nat → Int32 → Int32 → Int32 → Mem → Option (Int32 × Mem)) (v0 : Nat) (v1 : Int32) (v3 : Int32) (S : Mem) : Option (Int32 × Mem) :=
    F_X6_inRange_J73 K43 v0 v1 v3 (0 : Int32) S
set_option maxRecDepth 100000 in
theorem T_X6_inRange_J72 {g : GG} {l : Launch} (hl : l.stackTraces = false) {S' : Mem} {r : Int32}  {K43 : Nat → Int32 → Int32 → Int32 → Mem → Option (Int32 × Mem)} (hK43 : ∀ (v0 : Nat) (v1 : Int32) (v2 : Int32) (v3 : Int32) (S : Mem), K43 v0 v1 v2 v3 S = some (r, S') → Run g l uX6_inRange (fin g uX6_inRange (cvI r) S') 43 [(0, .ref v0), (1, .int v1), (2, .int v2), (3, .int v3)] [] 0 0 S) : ∀ (v0 : Nat) (v1 : Int32) (v3 : Int32) (S : Mem), F_X6_inRange_J72 K43 v0 v1 v3 S = some (r, S') → Run g l uX6_inRange (fin g uX6_inRange (cvI r) S') 72 [(0, .ref v0), (1, .int v1), (3, .int v3)] [] 0 0 S := by
  intro v0 v1 v3 S h
  unfold F_X6_inRange_J72 at h
  refine r_iconst (v := (0 : Int32)) dX6_inRange_72 (by decide) ?_
  exact T_X6_inRange_J73 hl hK43 v0 v1 v3 (0 : Int32) S h

def F_X6_inRange_L43 : Nat → Nat → Int32 → Int32 → Int32 → Mem → Option (Int32 × Mem)
  | 0, _, _, _, _, _ => none
  | fu + 1, v0, v1, v2, v3, S =>
    if v1 ≤ v3 then
      F_X6_inRange_L82 FU v0 v1 v2 (0 : Int32) S
    else
      if v2 = 0 then
        F_X6_inRange_J72 (F_X6_inRange_L43 fu) v0 v1 v3 S
      else
        (pk 6 S v0).bind fun _ =>
        bd2 (F_X6_get v0 (25 : Int32) ((11 : Int32) + v3) S) fun t34 S35 =>
        if (9999 : Int32) < t34 then
          F_X6_inRange_J72 (F_X6_inRange_L43 fu) v0 v1 v3 S35
        else
          F_X6_inRange_J73 (F_X6_inRange_L43 fu) v0 v1 v3 (1 : Int32) S35
set_option maxRecDepth 100000 in
theorem T_X6_inRange_L43 {g : GG} {l : Launch} (hl : l.stackTraces = false) {S' : Mem} {r : Int32}  : ∀ (fu : Nat) (v0 : Nat) (v1 : Int32) (v2 : Int32) (v3 : Int32) (S : Mem), F_X6_inRange_L43 fu v0 v1 v2 v3 S = some (r, S') → Run g l uX6_inRange (fin g uX6_inRange (cvI r) S') 43 [(0, .ref v0), (1, .int v1), (2, .int v2), (3, .int v3)] [] 0 0 S := by
  intro fu
  induction fu with
  | zero =>
    intro v0 v1 v2 v3 S h
    cases (show none = some _ from h)
  | succ fu ih =>
    intro v0 v1 v2 v3 S h
    unfold F_X6_inRange_L43 at h
    refine r_iload_n dX6_inRange_43 rfl 3 rfl ?_
    refine r_iload_n dX6_inRange_44 rfl 1 rfl ?_
    refine r_icmp_ge (tgt := 80) dX6_inRange_45 (by decide) (fun c31 => ?_) (fun c31 => ?_)
    · rw [if_pos c31] at h
      refine r_iconst (v := (0 : Int32)) dX6_inRange_80 (by decide) ?_
      refine r_istore_n (lv' := [(3, .int ((0 : Int32))), (0, .ref v0), (1, .int v1), (2, .int v2)]) dX6_inRange_81 rfl (by decide) rfl ?_
      refine r_sub [1, 2, 3, 0] rfl ?_
      exact T_X6_inRange_L82 hl FU v0 v1 v2 (0 : Int32) S h
    · rw [if_neg c31] at h
      refine r_iload_n dX6_inRange_48 rfl 2 rfl ?_
      refine r_if_eq (tgt := 72) dX6_inRange_49 (by decide) (fun c32 => ?_) (fun c32 => ?_)
      · rw [if_pos c32] at h
        refine r_sub [0, 1, 3] rfl ?_
        exact T_X6_inRange_J72 hl (fun v0 v1 v2 v3 S h => ih v0 v1 v2 v3 S h) v0 v1 v3 S h
      · rw [if_neg c32] at h
        refine r_aload_n dX6_inRange_52 rfl 0 rfl ?_
        refine r_bipush (v := (25 : Int32)) dX6_inRange_53 (by decide) ?_
        refine r_bipush (v := (11 : Int32)) dX6_inRange_55 (by decide) ?_
        refine r_iload_n dX6_inRange_57 rfl 3 rfl ?_
        refine r_iadd dX6_inRange_58 ?_
        obtain ⟨z33, hk, h⟩ := bd h
        obtain ⟨t34, S35, h0, h⟩ := bd2_s h
        refine r_invV (As := [.int ((25 : Int32)), .int ((11 : Int32) + v3)]) (st := []) dX6_inRange_59 lv6_33 (by unfold RM; decide) (Nat.le_of_ble_eq_true rfl) rfl rfl (pk_ok hk) (T_X6_get hl h0) ?_
        refine r_sipush (v := (9999 : Int32)) dX6_inRange_62 (by decide) ?_
        refine r_icmp_gt (tgt := 72) dX6_inRange_65 (by decide) (fun c36 => ?_) (fun c36 => ?_)
        · rw [if_pos c36] at h
          refine r_sub [0, 1, 3] rfl ?_
          exact T_X6_inRange_J72 hl (fun v0 v1 v2 v3 S h => ih v0 v1 v2 v3 S h) v0 v1 v3 S35 h
        · rw [if_neg c36] at h
          refine r_iconst (v := (1 : Int32)) dX6_inRange_68 (by decide) ?_
          refine r_goto (tgt := 73) dX6_inRange_69 (by decide) ?_
          refine r_sub [0, 1, 3] rfl ?_
          exact T_X6_inRange_J73 hl (fun v0 v1 v2 v3 S h => ih v0 v1 v2 v3 S h) v0 v1 v3 (1 : Int32) S35 h

def F_X6_inRange_J40 (v0 : Nat) (v1 : Int32) (s0 : Int32) (S : Mem) : Option (Int32 × Mem) :=
    F_X6_inRange_L43 FU v0 v1 s0 (0 : Int32) S
set_option maxRecDepth 100000 in
theorem T_X6_inRange_J40 {g : GG} {l : Launch} (hl : l.stackTraces = false) {S' : Mem} {r : Int32}  : ∀ (v0 : Nat) (v1 : Int32) (s0 : Int32) (S : Mem), F_X6_inRange_J40 v0 v1 s0 S = some (r, S') → Run g l uX6_inRange (fin g uX6_inRange (cvI r) S') 40 [(0, .ref v0), (1, .int v1)] [.int s0] 0 0 S := by
  intro v0 v1 s0 S h
  unfold F_X6_inRange_J40 at h
  refine r_istore_n (lv' := [(2, .int s0), (0, .ref v0), (1, .int v1)]) dX6_inRange_40 rfl (by decide) rfl ?_
  refine r_iconst (v := (0 : Int32)) dX6_inRange_41 (by decide) ?_
  refine r_istore_n (lv' := [(3, .int ((0 : Int32))), (2, .int s0), (0, .ref v0), (1, .int v1)]) dX6_inRange_42 rfl (by decide) rfl ?_
  refine r_sub [2, 3, 1, 0] rfl ?_
  exact T_X6_inRange_L43 hl FU v0 v1 s0 (0 : Int32) S h

def F_X6_inRange_J39 (v0 : Nat) (v1 : Int32) (S : Mem) : Option (Int32 × Mem) :=
    F_X6_inRange_J40 v0 v1 (0 : Int32) S
set_option maxRecDepth 100000 in
theorem T_X6_inRange_J39 {g : GG} {l : Launch} (hl : l.stackTraces = false) {S' : Mem} {r : Int32}  : ∀ (v0 : Nat) (v1 : Int32) (S : Mem), F_X6_inRange_J39 v0 v1 S = some (r, S') → Run g l uX6_inRange (fin g uX6_inRange (cvI r) S') 39 [(0, .ref v0), (1, .int v1)] [] 0 0 S := by
  intro v0 v1 S h
  unfold F_X6_inRange_J39 at h
  refine r_iconst (v := (0 : Int32)) dX6_inRange_39 (by decide) ?_
  exact T_X6_inRange_J40 hl v0 v1 (0 : Int32) S h

def F_X6_inRange (v0 : Nat) (v1 : Int32) (S : Mem) : Option (Int32 × Mem) :=
    (pk 6 S v0).bind fun _ =>
    bd2 (F_X6_get v0 (25 : Int32) (0 : Int32) S) fun t38 S39 =>
    if t38 < (1 : Int32) then
      F_X6_inRange_J39 v0 v1 S39
    else
      (pk 6 S39 v0).bind fun _ =>
      bd2 (F_X6_get v0 (25 : Int32) (0 : Int32) S39) fun t42 S43 =>
      (pk 6 S43 v0).bind fun _ =>
      bd2 (F_X6_get v0 (25 : Int32) (2 : Int32) S43) fun t45 S46 =>
      (pgI 6 2 S46 v0).bind fun t47 =>
      if t47 < ((t42 + t45) - (1 : Int32)) then
        F_X6_inRange_J39 v0 v1 S46
      else
        F_X6_inRange_J40 v0 v1 (1 : Int32) S46
set_option maxRecDepth 100000 in
theorem T_X6_inRange {g : GG} {l : Launch} (hl : l.stackTraces = false) {v0 : Nat} {v1 : Int32} {S S' : Mem} {r : Int32} (h : F_X6_inRange v0 v1 S = some (r, S')) : Call g l uX6_inRange [.ref v0, .int v1] S (cvI r) S' := by
  refine call_of (by decide +kernel) hl rfl (Nat.le_of_ble_eq_true rfl) ?_
  show Run g l uX6_inRange _ 0 [(0, .ref v0), (1, .int v1)] [] 0 0 S
  unfold F_X6_inRange at h
  refine r_aload_n dX6_inRange_0 rfl 0 rfl ?_
  refine r_bipush (v := (25 : Int32)) dX6_inRange_1 (by decide) ?_
  refine r_iconst (v := (0 : Int32)) dX6_inRange_3 (by decide) ?_
  obtain ⟨z37, hk, h⟩ := bd h
  obtain ⟨t38, S39, h0, h⟩ := bd2_s h
  refine r_invV (As := [.int ((25 : Int32)), .int ((0 : Int32))]) (st := []) dX6_inRange_4 lv6_33 (by unfold RM; decide) (Nat.le_of_ble_eq_true rfl) rfl rfl (pk_ok hk) (T_X6_get hl h0) ?_
  refine r_iconst (v := (1 : Int32)) dX6_inRange_7 (by decide) ?_
  refine r_icmp_lt (tgt := 39) dX6_inRange_8 (by decide) (fun c40 => ?_) (fun c40 => ?_)
  · rw [if_pos c40] at h
    exact T_X6_inRange_J39 hl v0 v1 S39 h
  · rw [if_neg c40] at h
    refine r_aload_n dX6_inRange_11 rfl 0 rfl ?_
    refine r_bipush (v := (25 : Int32)) dX6_inRange_12 (by decide) ?_
    refine r_iconst (v := (0 : Int32)) dX6_inRange_14 (by decide) ?_
    obtain ⟨z41, hk, h⟩ := bd h
    obtain ⟨t42, S43, h0, h⟩ := bd2_s h
    refine r_invV (As := [.int ((25 : Int32)), .int ((0 : Int32))]) (st := []) dX6_inRange_15 lv6_33 (by unfold RM; decide) (Nat.le_of_ble_eq_true rfl) rfl rfl (pk_ok hk) (T_X6_get hl h0) ?_
    refine r_aload_n dX6_inRange_18 rfl 0 rfl ?_
    refine r_bipush (v := (25 : Int32)) dX6_inRange_19 (by decide) ?_
    refine r_iconst (v := (2 : Int32)) dX6_inRange_21 (by decide) ?_
    obtain ⟨z44, hk, h⟩ := bd h
    obtain ⟨t45, S46, h0, h⟩ := bd2_s h
    refine r_invV (As := [.int ((25 : Int32)), .int ((2 : Int32))]) (st := [.int t42]) dX6_inRange_22 lv6_33 (by unfold RM; decide) (Nat.le_of_ble_eq_true rfl) rfl rfl (pk_ok hk) (T_X6_get hl h0) ?_
    refine r_iadd dX6_inRange_25 ?_
    refine r_iconst (v := (1 : Int32)) dX6_inRange_26 (by decide) ?_
    refine r_isub dX6_inRange_27 ?_
    refine r_aload_n dX6_inRange_28 rfl 0 rfl ?_
    obtain ⟨t47, h0, h⟩ := bd h
    refine q_getI h0 dX6_inRange_29 fl6_37 rfl ?_
    refine r_icmp_gt (tgt := 39) dX6_inRange_32 (by decide) (fun c48 => ?_) (fun c48 => ?_)
    · rw [if_pos c48] at h
      exact T_X6_inRange_J39 hl v0 v1 S46 h
    · rw [if_neg c48] at h
      refine r_iconst (v := (1 : Int32)) dX6_inRange_35 (by decide) ?_
      refine r_goto (tgt := 40) dX6_inRange_36 (by decide) ?_
      exact T_X6_inRange_J40 hl v0 v1 (1 : Int32) S46 h

def F_X6_taken_L182 (K174 : Nat → Int32 → Int32 → Int32 → Mem → Option (Int32 × Mem)) : Nat → Nat → Int32 → Int32 → Int32 → Int32 → Mem → Option (Int32 × Mem)
  | 0, _, _, _, _, _, _ => none
  | fu + 1, v0, v1, v2, v3, v4, S =>
    if (2 : Int32) ≤ v4 then
      (pk 6 S v0).bind fun _ =>
      bd2 (F_X6_byteAt v0 (v2 + (1 : Int32)) S) fun t3 S4 =>
      (prem t3 (2 : Int32)).bind fun t5 =>
      (pk 6 S4 v0).bind fun _ =>
      (F_X6_put v0 (25 : Int32) (((15 : Int32) + ((3 : Int32) * v3)) + (2 : Int32)) t5 S4).bind fun S8 =>
      bd2 (F_X6_pairs v1 S8) fun t9 S10 =>
      (pk 6 S10 v0).bind fun _ =>
      bd2 (F_X6_readRow v0 (v2 + (3 : Int32)) ((21 : Int32) + ((10 : Int32) * v3)) t9 S10) fun t12 S13 =>
      K174 v0 v1 t12 (v3 + 1) S13
    else
      (pk 6 S v0).bind fun _ =>
      bd2 (F_X6_byteAt v0 ((v2 + (1 : Int32)) + v4) S) fun t15 S16 =>
      (pdiv t15 (2 : Int32)).bind fun t17 =>
      (pk 6 S16 v0).bind fun _ =>
      (F_X6_put v0 (25 : Int32) (((15 : Int32) + ((3 : Int32) * v3)) + v4) (t17 - (1 : Int32)) S16).bind fun S20 =>
      F_X6_taken_L182 K174 fu v0 v1 v2 v3 (v4 + 1) S20
set_option maxRecDepth 100000 in
theorem T_X6_taken_L182 {g : GG} {l : Launch} (hl : l.stackTraces = false) {S' : Mem} {r : Int32}  {K174 : Nat → Int32 → Int32 → Int32 → Mem → Option (Int32 × Mem)} (hK174 : ∀ (v0 : Nat) (v1 : Int32) (v2 : Int32) (v3 : Int32) (S : Mem), K174 v0 v1 v2 v3 S = some (r, S') → Run g l uX6_taken (fin g uX6_taken (cvI r) S') 174 [(0, .ref v0), (1, .int v1), (2, .int v2), (3, .int v3)] [] 0 0 S) : ∀ (fu : Nat) (v0 : Nat) (v1 : Int32) (v2 : Int32) (v3 : Int32) (v4 : Int32) (S : Mem), F_X6_taken_L182 K174 fu v0 v1 v2 v3 v4 S = some (r, S') → Run g l uX6_taken (fin g uX6_taken (cvI r) S') 182 [(0, .ref v0), (1, .int v1), (2, .int v2), (3, .int v3), (4, .int v4)] [] 0 0 S := by
  intro fu
  induction fu with
  | zero =>
    intro v0 v1 v2 v3 v4 S h
    cases (show none = some _ from h)
  | succ fu ih =>
    intro v0 v1 v2 v3 v4 S h
    unfold F_X6_taken_L182 at h
    refine r_iload dX6_taken_182 4 rfl ?_
    refine r_iconst (v := (2 : Int32)) dX6_taken_184 (by decide) ?_
    refine r_icmp_ge (tgt := 223) dX6_taken_185 (by decide) (fun c1 => ?_) (fun c1 => ?_)
    · rw [if_pos c1] at h
      refine r_aload_n dX6_taken_223 rfl 0 rfl ?_
      refine r_bipush (v := (25 : Int32)) dX6_taken_224 (by decide) ?_
      refine r_bipush (v := (15 : Int32)) dX6_taken_226 (by decide) ?_
      refine r_iconst (v := (3 : Int32)) dX6_taken_228 (by decide) ?_
      refine r_iload_n dX6_taken_229 rfl 3 rfl ?_
      refine r_imul dX6_taken_230 ?_
      refine r_iadd dX6_taken_231 ?_
      refine r_iconst (v := (2 : Int32)) dX6_taken_232 (by decide) ?_
      refine r_iadd dX6_taken_233 ?_
      refine r_aload_n dX6_taken_234 rfl 0 rfl ?_
      refine r_iload_n dX6_taken_235 rfl 2 rfl ?_
      refine r_iconst (v := (1 : Int32)) dX6_taken_236 (by decide) ?_
      refine r_iadd dX6_taken_237 ?_
      obtain ⟨z2, hk, h⟩ := bd h
      obtain ⟨t3, S4, h0, h⟩ := bd2_s h
      refine r_invV (As := [.int (v2 + (1 : Int32))]) (st := [.int (((15 : Int32) + ((3 : Int32) * v3)) + (2 : Int32)), .int ((25 : Int32)), .ref v0]) dX6_taken_238 lv6_141 (by unfold RM; decide) (Nat.le_of_ble_eq_true rfl) rfl rfl (pk_ok hk) (T_X6_byteAt hl h0) ?_
      refine r_iconst (v := (2 : Int32)) dX6_taken_241 (by decide) ?_
      obtain ⟨t5, h0, h⟩ := bd h
      refine q_irem h0 dX6_taken_242 ?_
      obtain ⟨z6, hk, h⟩ := bd h
      obtain ⟨S8, h0, h⟩ := bd h
      refine r_invV (As := [.int ((25 : Int32)), .int (((15 : Int32) + ((3 : Int32) * v3)) + (2 : Int32)), .int t5]) (st := []) dX6_taken_243 lv6_29 (by unfold RM; decide) (Nat.le_of_ble_eq_true rfl) rfl rfl (pk_ok hk) (T_X6_put hl h0) ?_
      refine r_aload_n dX6_taken_246 rfl 0 rfl ?_
      refine r_iload_n dX6_taken_247 rfl 2 rfl ?_
      refine r_iconst (v := (3 : Int32)) dX6_taken_248 (by decide) ?_
      refine r_iadd dX6_taken_249 ?_
      refine r_bipush (v := (21 : Int32)) dX6_taken_250 (by decide) ?_
      refine r_bipush (v := (10 : Int32)) dX6_taken_252 (by decide) ?_
      refine r_iload_n dX6_taken_254 rfl 3 rfl ?_
      refine r_imul dX6_taken_255 ?_
      refine r_iadd dX6_taken_256 ?_
      refine r_iload_n dX6_taken_257 rfl 1 rfl ?_
      obtain ⟨t9, S10, h0, h⟩ := bd2_s h
      refine r_invS (As := [.int v1]) (st := [.int ((21 : Int32) + ((10 : Int32) * v3)), .int (v2 + (3 : Int32)), .ref v0]) dX6_taken_258 ls6_70 (by unfold RM; decide) (Nat.le_of_ble_eq_true rfl) rfl rfl (T_X6_pairs hl h0) ?_
      obtain ⟨z11, hk, h⟩ := bd h
      obtain ⟨t12, S13, h0, h⟩ := bd2_s h
      refine r_invV (As := [.int (v2 + (3 : Int32)), .int ((21 : Int32) + ((10 : Int32) * v3)), .int t9]) (st := []) dX6_taken_261 lv6_150 (by unfold RM; decide) (Nat.le_of_ble_eq_true rfl) rfl rfl (pk_ok hk) (T_X6_readRow hl h0) ?_
      refine r_istore_n (lv' := [(2, .int t12), (0, .ref v0), (1, .int v1), (3, .int v3), (4, .int v4)]) dX6_taken_264 rfl (by decide) rfl ?_
      refine r_iinc (v := v3 + 1) (lv' := [(3, .int (v3 + 1)), (2, .int t12), (0, .ref v0), (1, .int v1), (4, .int v4)]) dX6_taken_265 3 rfl rfl (by decide) rfl ?_
      refine r_goto (tgt := 174) dX6_taken_268 (by decide) ?_
      refine r_sub [2, 3, 1, 0] rfl ?_
      exact hK174 v0 v1 t12 (v3 + 1) S13 h
    · rw [if_neg c1] at h
      refine r_aload_n dX6_taken_188 rfl 0 rfl ?_
      refine r_bipush (v := (25 : Int32)) dX6_taken_189 (by decide) ?_
      refine r_bipush (v := (15 : Int32)) dX6_taken_191 (by decide) ?_
      refine r_iconst (v := (3 : Int32)) dX6_taken_193 (by decide) ?_
      refine r_iload_n dX6_taken_194 rfl 3 rfl ?_
      refine r_imul dX6_taken_195 ?_
      refine r_iadd dX6_taken_196 ?_
      refine r_iload dX6_taken_197 4 rfl ?_
      refine r_iadd dX6_taken_199 ?_
      refine r_aload_n dX6_taken_200 rfl 0 rfl ?_
      refine r_iload_n dX6_taken_201 rfl 2 rfl ?_
      refine r_iconst (v := (1 : Int32)) dX6_taken_202 (by decide) ?_
      refine r_iadd dX6_taken_203 ?_
      refine r_iload dX6_taken_204 4 rfl ?_
      refine r_iadd dX6_taken_206 ?_
      obtain ⟨z14, hk, h⟩ := bd h
      obtain ⟨t15, S16, h0, h⟩ := bd2_s h
      refine r_invV (As := [.int ((v2 + (1 : Int32)) + v4)]) (st := [.int (((15 : Int32) + ((3 : Int32) * v3)) + v4), .int ((25 : Int32)), .ref v0]) dX6_taken_207 lv6_141 (by unfold RM; decide) (Nat.le_of_ble_eq_true rfl) rfl rfl (pk_ok hk) (T_X6_byteAt hl h0) ?_
      refine r_iconst (v := (2 : Int32)) dX6_taken_210 (by decide) ?_
      obtain ⟨t17, h0, h⟩ := bd h
      refine q_idiv h0 dX6_taken_211 ?_
      refine r_iconst (v := (1 : Int32)) dX6_taken_212 (by decide) ?_
      refine r_isub dX6_taken_213 ?_
      obtain ⟨z18, hk, h⟩ := bd h
      obtain ⟨S20, h0, h⟩ := bd h
      refine r_invV (As := [.int ((25 : Int32)), .int (((15 : Int32) + ((3 : Int32) * v3)) + v4), .int (t17 - (1 : Int32))]) (st := []) dX6_taken_214 lv6_29 (by unfold RM; decide) (Nat.le_of_ble_eq_true rfl) rfl rfl (pk_ok hk) (T_X6_put hl h0) ?_
      refine r_iinc (v := v4 + 1) (lv' := [(4, .int (v4 + 1)), (0, .ref v0), (1, .int v1), (2, .int v2), (3, .int v3)]) dX6_taken_217 4 rfl rfl (by decide) rfl ?_
      refine r_goto (tgt := 182) dX6_taken_220 (by decide) ?_
      refine r_sub [1, 2, 3, 4, 0] rfl ?_
      exact ih v0 v1 v2 v3 (v4 + 1) S20 h

def F_X6_taken_L174 : Nat → Nat → Int32 → Int32 → Int32 → Mem → Option (Int32 × Mem)
  | 0, _, _, _, _, _ => none
  | fu + 1, v0, v1, v2, v3, S =>
    if (2 : Int32) ≤ v3 then
      (pk 6 S v0).bind fun _ =>
      bd2 (F_X6_inRange v0 v1 S) fun t23 S24 =>
      rtZ t23 S24
    else
      F_X6_taken_L182 (F_X6_taken_L174 fu) FU v0 v1 v2 v3 (0 : Int32) S
set_option maxRecDepth 100000 in
theorem T_X6_taken_L174 {g : GG} {l : Launch} (hl : l.stackTraces = false) {S' : Mem} {r : Int32}  : ∀ (fu : Nat) (v0 : Nat) (v1 : Int32) (v2 : Int32) (v3 : Int32) (S : Mem), F_X6_taken_L174 fu v0 v1 v2 v3 S = some (r, S') → Run g l uX6_taken (fin g uX6_taken (cvI r) S') 174 [(0, .ref v0), (1, .int v1), (2, .int v2), (3, .int v3)] [] 0 0 S := by
  intro fu
  induction fu with
  | zero =>
    intro v0 v1 v2 v3 S h
    cases (show none = some _ from h)
  | succ fu ih =>
    intro v0 v1 v2 v3 S h
    unfold F_X6_taken_L174 at h
    refine r_iload_n dX6_taken_174 rfl 3 rfl ?_
    refine r_iconst (v := (2 : Int32)) dX6_taken_175 (by decide) ?_
    refine r_icmp_ge (tgt := 271) dX6_taken_176 (by decide) (fun c21 => ?_) (fun c21 => ?_)
    · rw [if_pos c21] at h
      refine r_aload_n dX6_taken_271 rfl 0 rfl ?_
      refine r_iload_n dX6_taken_272 rfl 1 rfl ?_
      obtain ⟨z22, hk, h⟩ := bd h
      obtain ⟨t23, S24, h0, h⟩ := bd2_s h
      refine r_invV (As := [.int v1]) (st := []) dX6_taken_273 lv6_153 (by unfold RM; decide) (Nat.le_of_ble_eq_true rfl) rfl rfl (pk_ok hk) (T_X6_inRange hl h0) ?_
      obtain ⟨hz, hzz⟩ := if_some h
      cases hzz
      exact r_ireturn dX6_taken_276 rfl (narrow_b hz).1 (by decide) (by decide)
    · rw [if_neg c21] at h
      refine r_iconst (v := (0 : Int32)) dX6_taken_179 (by decide) ?_
      refine r_istore (lv' := [(4, .int ((0 : Int32))), (0, .ref v0), (1, .int v1), (2, .int v2), (3, .int v3)]) dX6_taken_180 (by decide) rfl ?_
      refine r_sub [1, 2, 3, 4, 0] rfl ?_
      exact T_X6_taken_L182 hl (fun v0 v1 v2 v3 S h => ih v0 v1 v2 v3 S h) FU v0 v1 v2 v3 (0 : Int32) S h

def F_X6_taken_L92 (K57 : Nat → Int32 → Int32 → Int32 → Mem → Option (Int32 × Mem)) : Nat → Nat → Int32 → Int32 → Int32 → Int32 → Int32 → Int32 → Mem → Option (Int32 × Mem)
  | 0, _, _, _, _, _, _, _, _ => none
  | fu + 1, v0, v1, v2, v3, v4, v5, v6, S =>
    if v4 ≤ v6 then
      (pk 6 S v0).bind fun _ =>
      bd2 (F_X6_findAllele v0 (25 : Int32) v4 v5 S) fun t27 S28 =>
      if t27 < 0 then
        (pk 6 S28 v0).bind fun _ =>
        (F_X6_addAllele v0 (25 : Int32) v4 v5 S28).bind fun S32 =>
        K57 v0 v1 ((v2 + (1 : Int32)) + v4) (v3 + 1) S32
      else
        some ((0 : Int32), S28)
    else
      (pk 6 S v0).bind fun _ =>
      bd2 (F_X6_byteAt v0 ((v2 + (1 : Int32)) + v6) S) fun t34 S35 =>
      bd2 (F_X6_baseOf t34 S35) fun t36 S37 =>
      F_X6_taken_L92 K57 fu v0 v1 v2 v3 v4 (((4 : Int32) * v5) + t36) (v6 + 1) S37
set_option maxRecDepth 100000 in
theorem T_X6_taken_L92 {g : GG} {l : Launch} (hl : l.stackTraces = false) {S' : Mem} {r : Int32}  {K57 : Nat → Int32 → Int32 → Int32 → Mem → Option (Int32 × Mem)} (hK57 : ∀ (v0 : Nat) (v1 : Int32) (v2 : Int32) (v3 : Int32) (S : Mem), K57 v0 v1 v2 v3 S = some (r, S') → Run g l uX6_taken (fin g uX6_taken (cvI r) S') 57 [(0, .ref v0), (1, .int v1), (2, .int v2), (3, .int v3)] [] 0 0 S) : ∀ (fu : Nat) (v0 : Nat) (v1 : Int32) (v2 : Int32) (v3 : Int32) (v4 : Int32) (v5 : Int32) (v6 : Int32) (S : Mem), F_X6_taken_L92 K57 fu v0 v1 v2 v3 v4 v5 v6 S = some (r, S') → Run g l uX6_taken (fin g uX6_taken (cvI r) S') 92 [(0, .ref v0), (1, .int v1), (2, .int v2), (3, .int v3), (4, .int v4), (5, .int v5), (6, .int v6)] [] 0 0 S := by
  intro fu
  induction fu with
  | zero =>
    intro v0 v1 v2 v3 v4 v5 v6 S h
    cases (show none = some _ from h)
  | succ fu ih =>
    intro v0 v1 v2 v3 v4 v5 v6 S h
    unfold F_X6_taken_L92 at h
    refine r_iload dX6_taken_92 6 rfl ?_
    refine r_iload dX6_taken_94 4 rfl ?_
    refine r_icmp_ge (tgt := 125) dX6_taken_96 (by decide) (fun c25 => ?_) (fun c25 => ?_)
    · rw [if_pos c25] at h
      refine r_aload_n dX6_taken_125 rfl 0 rfl ?_
      refine r_bipush (v := (25 : Int32)) dX6_taken_126 (by decide) ?_
      refine r_iload dX6_taken_128 4 rfl ?_
      refine r_iload dX6_taken_130 5 rfl ?_
      obtain ⟨z26, hk, h⟩ := bd h
      obtain ⟨t27, S28, h0, h⟩ := bd2_s h
      refine r_invV (As := [.int ((25 : Int32)), .int v4, .int v5]) (st := []) dX6_taken_132 lv6_63 (by unfold RM; decide) (Nat.le_of_ble_eq_true rfl) rfl rfl (pk_ok hk) (T_X6_findAllele hl h0) ?_
      refine r_if_lt (tgt := 140) dX6_taken_135 (by decide) (fun c29 => ?_) (fun c29 => ?_)
      · rw [if_pos c29] at h
        refine r_aload_n dX6_taken_140 rfl 0 rfl ?_
        refine r_bipush (v := (25 : Int32)) dX6_taken_141 (by decide) ?_
        refine r_iload dX6_taken_143 4 rfl ?_
        refine r_iload dX6_taken_145 5 rfl ?_
        obtain ⟨z30, hk, h⟩ := bd h
        obtain ⟨S32, h0, h⟩ := bd h
        refine r_invV (As := [.int ((25 : Int32)), .int v4, .int v5]) (st := []) dX6_taken_147 lv6_60 (by unfold RM; decide) (Nat.le_of_ble_eq_true rfl) rfl rfl (pk_ok hk) (T_X6_addAllele hl h0) ?_
        refine r_iload_n dX6_taken_150 rfl 2 rfl ?_
        refine r_iconst (v := (1 : Int32)) dX6_taken_151 (by decide) ?_
        refine r_iadd dX6_taken_152 ?_
        refine r_iload dX6_taken_153 4 rfl ?_
        refine r_iadd dX6_taken_155 ?_
        refine r_istore_n (lv' := [(2, .int ((v2 + (1 : Int32)) + v4)), (0, .ref v0), (1, .int v1), (3, .int v3), (4, .int v4), (5, .int v5), (6, .int v6)]) dX6_taken_156 rfl (by decide) rfl ?_
        refine r_iinc (v := v3 + 1) (lv' := [(3, .int (v3 + 1)), (2, .int ((v2 + (1 : Int32)) + v4)), (0, .ref v0), (1, .int v1), (4, .int v4), (5, .int v5), (6, .int v6)]) dX6_taken_157 3 rfl rfl (by decide) rfl ?_
        refine r_goto (tgt := 57) dX6_taken_160 (by decide) ?_
        refine r_sub [2, 3, 1, 0] rfl ?_
        exact hK57 v0 v1 ((v2 + (1 : Int32)) + v4) (v3 + 1) S32 h
      · rw [if_neg c29] at h
        refine r_iconst (v := (0 : Int32)) dX6_taken_138 (by decide) ?_
        cases h
        exact r_ireturn dX6_taken_139 rfl (by decide) (by decide) (by decide)
    · rw [if_neg c25] at h
      refine r_iconst (v := (4 : Int32)) dX6_taken_99 (by decide) ?_
      refine r_iload dX6_taken_100 5 rfl ?_
      refine r_imul dX6_taken_102 ?_
      refine r_aload_n dX6_taken_103 rfl 0 rfl ?_
      refine r_iload_n dX6_taken_104 rfl 2 rfl ?_
      refine r_iconst (v := (1 : Int32)) dX6_taken_105 (by decide) ?_
      refine r_iadd dX6_taken_106 ?_
      refine r_iload dX6_taken_107 6 rfl ?_
      refine r_iadd dX6_taken_109 ?_
      obtain ⟨z33, hk, h⟩ := bd h
      obtain ⟨t34, S35, h0, h⟩ := bd2_s h
      refine r_invV (As := [.int ((v2 + (1 : Int32)) + v6)]) (st := [.int ((4 : Int32) * v5)]) dX6_taken_110 lv6_141 (by unfold RM; decide) (Nat.le_of_ble_eq_true rfl) rfl rfl (pk_ok hk) (T_X6_byteAt hl h0) ?_
      obtain ⟨t36, S37, h0, h⟩ := bd2_s h
      refine r_invS (As := [.int t34]) (st := [.int ((4 : Int32) * v5)]) dX6_taken_113 ls6_147 (by unfold RM; decide) (Nat.le_of_ble_eq_true rfl) rfl rfl (T_X6_baseOf hl h0) ?_
      refine r_iadd dX6_taken_116 ?_
      refine r_istore (lv' := [(5, .int (((4 : Int32) * v5) + t36)), (0, .ref v0), (1, .int v1), (2, .int v2), (3, .int v3), (4, .int v4), (6, .int v6)]) dX6_taken_117 (by decide) rfl ?_
      refine r_iinc (v := v6 + 1) (lv' := [(6, .int (v6 + 1)), (5, .int (((4 : Int32) * v5) + t36)), (0, .ref v0), (1, .int v1), (2, .int v2), (3, .int v3), (4, .int v4)]) dX6_taken_119 6 rfl rfl (by decide) rfl ?_
      refine r_goto (tgt := 92) dX6_taken_122 (by decide) ?_
      refine r_sub [2, 3, 4, 5, 6, 1, 0] rfl ?_
      exact ih v0 v1 v2 v3 v4 (((4 : Int32) * v5) + t36) (v6 + 1) S37 h

def F_X6_taken_L57 : Nat → Nat → Int32 → Int32 → Int32 → Mem → Option (Int32 × Mem)
  | 0, _, _, _, _, _ => none
  | fu + 1, v0, v1, v2, v3, S =>
    if v1 ≤ v3 then
      (pk 6 S v0).bind fun _ =>
      bd2 (F_X6_readRow v0 v2 (11 : Int32) v1 S) fun t40 S41 =>
      F_X6_taken_L174 FU v0 v1 t40 (0 : Int32) S41
    else
      (pk 6 S v0).bind fun _ =>
      bd2 (F_X6_byteAt v0 v2 S) fun t43 S44 =>
      if (t43 >>> ((4 : Int32) &&& 31)) < (1 : Int32) then
        some ((0 : Int32), S44)
      else
        if (t43 >>> ((4 : Int32) &&& 31)) ≤ (8 : Int32) then
          F_X6_taken_L92 (F_X6_taken_L57 fu) FU v0 v1 v2 v3 (t43 >>> ((4 : Int32) &&& 31)) (0 : Int32) (0 : Int32) S44
        else
          some ((0 : Int32), S44)
set_option maxRecDepth 100000 in
theorem T_X6_taken_L57 {g : GG} {l : Launch} (hl : l.stackTraces = false) {S' : Mem} {r : Int32}  : ∀ (fu : Nat) (v0 : Nat) (v1 : Int32) (v2 : Int32) (v3 : Int32) (S : Mem), F_X6_taken_L57 fu v0 v1 v2 v3 S = some (r, S') → Run g l uX6_taken (fin g uX6_taken (cvI r) S') 57 [(0, .ref v0), (1, .int v1), (2, .int v2), (3, .int v3)] [] 0 0 S := by
  intro fu
  induction fu with
  | zero =>
    intro v0 v1 v2 v3 S h
    cases (show none = some _ from h)
  | succ fu ih =>
    intro v0 v1 v2 v3 S h
    unfold F_X6_taken_L57 at h
    refine r_iload_n dX6_taken_57 rfl 3 rfl ?_
    refine r_iload_n dX6_taken_58 rfl 1 rfl ?_
    refine r_icmp_ge (tgt := 163) dX6_taken_59 (by decide) (fun c38 => ?_) (fun c38 => ?_)
    · rw [if_pos c38] at h
      refine r_aload_n dX6_taken_163 rfl 0 rfl ?_
      refine r_iload_n dX6_taken_164 rfl 2 rfl ?_
      refine r_bipush (v := (11 : Int32)) dX6_taken_165 (by decide) ?_
      refine r_iload_n dX6_taken_167 rfl 1 rfl ?_
      obtain ⟨z39, hk, h⟩ := bd h
      obtain ⟨t40, S41, h0, h⟩ := bd2_s h
      refine r_invV (As := [.int v2, .int ((11 : Int32)), .int v1]) (st := []) dX6_taken_168 lv6_150 (by unfold RM; decide) (Nat.le_of_ble_eq_true rfl) rfl rfl (pk_ok hk) (T_X6_readRow hl h0) ?_
      refine r_istore_n (lv' := [(2, .int t40), (0, .ref v0), (1, .int v1), (3, .int v3)]) dX6_taken_171 rfl (by decide) rfl ?_
      refine r_iconst (v := (0 : Int32)) dX6_taken_172 (by decide) ?_
      refine r_istore_n (lv' := [(3, .int ((0 : Int32))), (2, .int t40), (0, .ref v0), (1, .int v1)]) dX6_taken_173 rfl (by decide) rfl ?_
      refine r_sub [2, 3, 1, 0] rfl ?_
      exact T_X6_taken_L174 hl FU v0 v1 t40 (0 : Int32) S41 h
    · rw [if_neg c38] at h
      refine r_aload_n dX6_taken_62 rfl 0 rfl ?_
      refine r_iload_n dX6_taken_63 rfl 2 rfl ?_
      obtain ⟨z42, hk, h⟩ := bd h
      obtain ⟨t43, S44, h0, h⟩ := bd2_s h
      refine r_invV (As := [.int v2]) (st := []) dX6_taken_64 lv6_141 (by unfold RM; decide) (Nat.le_of_ble_eq_true rfl) rfl rfl (pk_ok hk) (T_X6_byteAt hl h0) ?_
      refine r_iconst (v := (4 : Int32)) dX6_taken_67 (by decide) ?_
      refine r_ishr dX6_taken_68 ?_
      refine r_istore (lv' := [(4, .int (t43 >>> ((4 : Int32) &&& 31))), (0, .ref v0), (1, .int v1), (2, .int v2), (3, .int v3)]) dX6_taken_69 (by decide) rfl ?_
      refine r_iload dX6_taken_71 0 rfl ?_
      refine r_iconst (v := (1 : Int32)) dX6_taken_73 (by decide) ?_
      refine r_icmp_lt (tgt := 84) dX6_taken_74 (by decide) (fun c45 => ?_) (fun c45 => ?_)
      · rw [if_pos c45] at h
        refine r_iconst (v := (0 : Int32)) dX6_taken_84 (by decide) ?_
        cases h
        exact r_ireturn dX6_taken_85 rfl (by decide) (by decide) (by decide)
      · rw [if_neg c45] at h
        refine r_iload dX6_taken_77 0 rfl ?_
        refine r_bipush (v := (8 : Int32)) dX6_taken_79 (by decide) ?_
        refine r_icmp_le (tgt := 86) dX6_taken_81 (by decide) (fun c46 => ?_) (fun c46 => ?_)
        · rw [if_pos c46] at h
          refine r_iconst (v := (0 : Int32)) dX6_taken_86 (by decide) ?_
          refine r_istore (lv' := [(5, .int ((0 : Int32))), (4, .int (t43 >>> ((4 : Int32) &&& 31))), (0, .ref v0), (1, .int v1), (2, .int v2), (3, .int v3)]) dX6_taken_87 (by decide) rfl ?_
          refine r_iconst (v := (0 : Int32)) dX6_taken_89 (by decide) ?_
          refine r_istore (lv' := [(6, .int ((0 : Int32))), (5, .int ((0 : Int32))), (4, .int (t43 >>> ((4 : Int32) &&& 31))), (0, .ref v0), (1, .int v1), (2, .int v2), (3, .int v3)]) dX6_taken_90 (by decide) rfl ?_
          refine r_sub [3, 4, 5, 6, 2, 1, 0] rfl ?_
          exact T_X6_taken_L92 hl (fun v0 v1 v2 v3 S h => ih v0 v1 v2 v3 S h) FU v0 v1 v2 v3 (t43 >>> ((4 : Int32) &&& 31)) (0 : Int32) (0 : Int32) S44 h
        · rw [if_neg c46] at h
          refine r_iconst (v := (0 : Int32)) dX6_taken_84 (by decide) ?_
          cases h
          exact r_ireturn dX6_taken_85 rfl (by decide) (by decide) (by decide)

def F_X6_taken (v0 : Nat) (S : Mem) : Option (Int32 × Mem) :=
    (pk 6 S v0).bind fun _ =>
    bd2 (F_X6_twoAt v0 (0 : Int32) S) fun t48 S49 =>
    (pk 6 S49 v0).bind fun _ =>
    (F_X6_empty v0 (25 : Int32) t48 S49).bind fun S52 =>
    (pk 6 S52 v0).bind fun _ =>
    bd2 (F_X6_twoAt v0 (2 : Int32) S52) fun t54 S55 =>
    (pk 6 S55 v0).bind fun _ =>
    (F_X6_put v0 (25 : Int32) (10 : Int32) t54 S55).bind fun S58 =>
    (pk 6 S58 v0).bind fun _ =>
    bd2 (F_X6_byteAt v0 (4 : Int32) S58) fun t60 S61 =>
    if t60 < (2 : Int32) then
      some ((0 : Int32), S61)
    else
      if (4 : Int32) < t60 then
        some ((0 : Int32), S61)
      else
        (pk 6 S61 v0).bind fun _ =>
        bd2 (F_X6_twoAt v0 (2 : Int32) S61) fun t65 S66 =>
        if t65 ≤ (8000 : Int32) then
          F_X6_taken_L57 FU v0 t60 (5 : Int32) (0 : Int32) S66
        else
          some ((0 : Int32), S66)
set_option maxRecDepth 100000 in
theorem T_X6_taken {g : GG} {l : Launch} (hl : l.stackTraces = false) {v0 : Nat} {S S' : Mem} {r : Int32} (h : F_X6_taken v0 S = some (r, S')) : Call g l uX6_taken [.ref v0] S (cvI r) S' := by
  refine call_of (by decide +kernel) hl rfl (Nat.le_of_ble_eq_true rfl) ?_
  show Run g l uX6_taken _ 0 [(0, .ref v0)] [] 0 0 S
  unfold F_X6_taken at h
  refine r_aload_n dX6_taken_0 rfl 0 rfl ?_
  refine r_bipush (v := (25 : Int32)) dX6_taken_1 (by decide) ?_
  refine r_aload_n dX6_taken_3 rfl 0 rfl ?_
  refine r_iconst (v := (0 : Int32)) dX6_taken_4 (by decide) ?_
  obtain ⟨z47, hk, h⟩ := bd h
  obtain ⟨t48, S49, h0, h⟩ := bd2_s h
  refine r_invV (As := [.int ((0 : Int32))]) (st := [.int ((25 : Int32)), .ref v0]) dX6_taken_5 lv6_144 (by unfold RM; decide) (Nat.le_of_ble_eq_true rfl) rfl rfl (pk_ok hk) (T_X6_twoAt hl h0) ?_
  obtain ⟨z50, hk, h⟩ := bd h
  obtain ⟨S52, h0, h⟩ := bd h
  refine r_invV (As := [.int ((25 : Int32)), .int t48]) (st := []) dX6_taken_8 lv6_53 (by unfold RM; decide) (Nat.le_of_ble_eq_true rfl) rfl rfl (pk_ok hk) (T_X6_empty hl h0) ?_
  refine r_aload_n dX6_taken_11 rfl 0 rfl ?_
  refine r_bipush (v := (25 : Int32)) dX6_taken_12 (by decide) ?_
  refine r_bipush (v := (10 : Int32)) dX6_taken_14 (by decide) ?_
  refine r_aload_n dX6_taken_16 rfl 0 rfl ?_
  refine r_iconst (v := (2 : Int32)) dX6_taken_17 (by decide) ?_
  obtain ⟨z53, hk, h⟩ := bd h
  obtain ⟨t54, S55, h0, h⟩ := bd2_s h
  refine r_invV (As := [.int ((2 : Int32))]) (st := [.int ((10 : Int32)), .int ((25 : Int32)), .ref v0]) dX6_taken_18 lv6_144 (by unfold RM; decide) (Nat.le_of_ble_eq_true rfl) rfl rfl (pk_ok hk) (T_X6_twoAt hl h0) ?_
  obtain ⟨z56, hk, h⟩ := bd h
  obtain ⟨S58, h0, h⟩ := bd h
  refine r_invV (As := [.int ((25 : Int32)), .int ((10 : Int32)), .int t54]) (st := []) dX6_taken_21 lv6_29 (by unfold RM; decide) (Nat.le_of_ble_eq_true rfl) rfl rfl (pk_ok hk) (T_X6_put hl h0) ?_
  refine r_aload_n dX6_taken_24 rfl 0 rfl ?_
  refine r_iconst (v := (4 : Int32)) dX6_taken_25 (by decide) ?_
  obtain ⟨z59, hk, h⟩ := bd h
  obtain ⟨t60, S61, h0, h⟩ := bd2_s h
  refine r_invV (As := [.int ((4 : Int32))]) (st := []) dX6_taken_26 lv6_141 (by unfold RM; decide) (Nat.le_of_ble_eq_true rfl) rfl rfl (pk_ok hk) (T_X6_byteAt hl h0) ?_
  refine r_istore_n (lv' := [(1, .int t60), (0, .ref v0)]) dX6_taken_29 rfl (by decide) rfl ?_
  refine r_iconst (v := (5 : Int32)) dX6_taken_30 (by decide) ?_
  refine r_istore_n (lv' := [(2, .int ((5 : Int32))), (1, .int t60), (0, .ref v0)]) dX6_taken_31 rfl (by decide) rfl ?_
  refine r_iload_n dX6_taken_32 rfl 1 rfl ?_
  refine r_iconst (v := (2 : Int32)) dX6_taken_33 (by decide) ?_
  refine r_icmp_lt (tgt := 53) dX6_taken_34 (by decide) (fun c62 => ?_) (fun c62 => ?_)
  · rw [if_pos c62] at h
    refine r_iconst (v := (0 : Int32)) dX6_taken_53 (by decide) ?_
    cases h
    exact r_ireturn dX6_taken_54 rfl (by decide) (by decide) (by decide)
  · rw [if_neg c62] at h
    refine r_iload_n dX6_taken_37 rfl 1 rfl ?_
    refine r_iconst (v := (4 : Int32)) dX6_taken_38 (by decide) ?_
    refine r_icmp_gt (tgt := 53) dX6_taken_39 (by decide) (fun c63 => ?_) (fun c63 => ?_)
    · rw [if_pos c63] at h
      refine r_iconst (v := (0 : Int32)) dX6_taken_53 (by decide) ?_
      cases h
      exact r_ireturn dX6_taken_54 rfl (by decide) (by decide) (by decide)
    · rw [if_neg c63] at h
      refine r_aload_n dX6_taken_42 rfl 2 rfl ?_
      refine r_iconst (v := (2 : Int32)) dX6_taken_43 (by decide) ?_
      obtain ⟨z64, hk, h⟩ := bd h
      obtain ⟨t65, S66, h0, h⟩ := bd2_s h
      refine r_invV (As := [.int ((2 : Int32))]) (st := []) dX6_taken_44 lv6_144 (by unfold RM; decide) (Nat.le_of_ble_eq_true rfl) rfl rfl (pk_ok hk) (T_X6_twoAt hl h0) ?_
      refine r_sipush (v := (8000 : Int32)) dX6_taken_47 (by decide) ?_
      refine r_icmp_le (tgt := 55) dX6_taken_50 (by decide) (fun c67 => ?_) (fun c67 => ?_)
      · rw [if_pos c67] at h
        refine r_iconst (v := (0 : Int32)) dX6_taken_55 (by decide) ?_
        refine r_istore_n (lv' := [(3, .int ((0 : Int32))), (2, .int ((5 : Int32))), (1, .int t60), (0, .ref v0)]) dX6_taken_56 rfl (by decide) rfl ?_
        refine r_sub [3, 2, 1, 0] rfl ?_
        exact T_X6_taken_L57 hl FU v0 t60 (5 : Int32) (0 : Int32) S66 h
      · rw [if_neg c67] at h
        refine r_iconst (v := (0 : Int32)) dX6_taken_53 (by decide) ?_
        cases h
        exact r_ireturn dX6_taken_54 rfl (by decide) (by decide) (by decide)

def F_X6_read_J127 (v0 : Nat) (v2 : Int32) (s0 : Nat) (s1 : Int32) (S : Mem) : Option (Int32 × Mem) :=
    (ppI 6 0 S s0 s1).bind fun S1 =>
    if v2 = 0 then
      some ((0 : Int32), S1)
    else
      (pk 6 S1 v0).bind fun _ =>
      bd2 (F_X6_enter v0 (25 : Int32) S1) fun t4 S5 =>
      some (t4, S5)
set_option maxRecDepth 100000 in
theorem T_X6_read_J127 {g : GG} {l : Launch} (hl : l.stackTraces = false) {S' : Mem} {r : Int32}  : ∀ (v0 : Nat) (v2 : Int32) (s0 : Nat) (s1 : Int32) (S : Mem), F_X6_read_J127 v0 v2 s0 s1 S = some (r, S') → Run g l uX6_read (fin g uX6_read (cvI r) S') 127 [(0, .ref v0), (2, .int v2)] [.int s1, .ref s0] 0 0 S := by
  intro v0 v2 s0 s1 S h
  unfold F_X6_read_J127 at h
  obtain ⟨S1, h0, h⟩ := bd h
  refine q_putI h0 dX6_read_127 fl6_25 rfl ?_
  refine r_iload_n dX6_read_130 rfl 1 rfl ?_
  refine r_if_eq (tgt := 143) dX6_read_131 (by decide) (fun c2 => ?_) (fun c2 => ?_)
  · rw [if_pos c2] at h
    refine r_iconst (v := (0 : Int32)) dX6_read_143 (by decide) ?_
    cases h
    exact r_ireturn dX6_read_144 rfl rfl (by decide) (by decide)
  · rw [if_neg c2] at h
    refine r_aload_n dX6_read_134 rfl 0 rfl ?_
    refine r_bipush (v := (25 : Int32)) dX6_read_135 (by decide) ?_
    obtain ⟨z3, hk, h⟩ := bd h
    obtain ⟨t4, S5, h0, h⟩ := bd2_s h
    refine r_invV (As := [.int ((25 : Int32))]) (st := []) dX6_read_137 lv6_74 (by unfold RM; decide) (Nat.le_of_ble_eq_true rfl) rfl rfl (pk_ok hk) (T_X6_enter hl h0) ?_
    refine r_goto (tgt := 144) dX6_read_140 (by decide) ?_
    cases h
    exact r_ireturn dX6_read_144 rfl rfl (by decide) (by decide)

def F_X6_read_J104 (v0 : Nat) (v1 : Int32) (v2 : Int32) (S : Mem) : Option (Int32 × Mem) :=
    (ppI 6 9 S v0 (0 : Int32)).bind fun S6 =>
    if v1 = 0 then
      if v2 = 0 then
        F_X6_read_J127 v0 v2 v0 (1 : Int32) S6
      else
        F_X6_read_J127 v0 v2 v0 (0 : Int32) S6
    else
      F_X6_read_J127 v0 v2 v0 (2 : Int32) S6
set_option maxRecDepth 100000 in
theorem T_X6_read_J104 {g : GG} {l : Launch} (hl : l.stackTraces = false) {S' : Mem} {r : Int32}  : ∀ (v0 : Nat) (v1 : Int32) (v2 : Int32) (S : Mem), F_X6_read_J104 v0 v1 v2 S = some (r, S') → Run g l uX6_read (fin g uX6_read (cvI r) S') 104 [(0, .ref v0), (1, .int v1), (2, .int v2)] [] 0 0 S := by
  intro v0 v1 v2 S h
  unfold F_X6_read_J104 at h
  refine r_aload_n dX6_read_104 rfl 0 rfl ?_
  refine r_iconst (v := (0 : Int32)) dX6_read_105 (by decide) ?_
  obtain ⟨S6, h0, h⟩ := bd h
  refine q_putI h0 dX6_read_106 fl6_136 rfl ?_
  refine r_aload_n dX6_read_109 rfl 0 rfl ?_
  refine r_iload_n dX6_read_110 rfl 1 rfl ?_
  refine r_if_eq (tgt := 118) dX6_read_111 (by decide) (fun c7 => ?_) (fun c7 => ?_)
  · rw [if_pos c7] at h
    refine r_iload_n dX6_read_118 rfl 2 rfl ?_
    refine r_if_eq (tgt := 126) dX6_read_119 (by decide) (fun c8 => ?_) (fun c8 => ?_)
    · rw [if_pos c8] at h
      refine r_iconst (v := (1 : Int32)) dX6_read_126 (by decide) ?_
      refine r_sub [0, 2] rfl ?_
      exact T_X6_read_J127 hl v0 v2 v0 (1 : Int32) S6 h
    · rw [if_neg c8] at h
      refine r_iconst (v := (0 : Int32)) dX6_read_122 (by decide) ?_
      refine r_goto (tgt := 127) dX6_read_123 (by decide) ?_
      refine r_sub [0, 2] rfl ?_
      exact T_X6_read_J127 hl v0 v2 v0 (0 : Int32) S6 h
  · rw [if_neg c7] at h
    refine r_iconst (v := (2 : Int32)) dX6_read_114 (by decide) ?_
    refine r_goto (tgt := 127) dX6_read_115 (by decide) ?_
    refine r_sub [0, 2] rfl ?_
    exact T_X6_read_J127 hl v0 v2 v0 (2 : Int32) S6 h

def F_X6_read_J97 (K65 : Nat → Int32 → Int32 → Int32 → Mem → Option (Int32 × Mem)) (v0 : Nat) (v1 : Int32) (v3 : Int32) (s0 : Int32) (S : Mem) : Option (Int32 × Mem) :=
    K65 v0 v1 s0 (v3 + 1) S
set_option maxRecDepth 100000 in
theorem T_X6_read_J97 {g : GG} {l : Launch} (hl : l.stackTraces = false) {S' : Mem} {r : Int32}  {K65 : Nat → Int32 → Int32 → Int32 → Mem → Option (Int32 × Mem)} (hK65 : ∀ (v0 : Nat) (v1 : Int32) (v2 : Int32) (v3 : Int32) (S : Mem), K65 v0 v1 v2 v3 S = some (r, S') → Run g l uX6_read (fin g uX6_read (cvI r) S') 65 [(0, .ref v0), (1, .int v1), (2, .int v2), (3, .int v3)] [] 0 0 S) : ∀ (v0 : Nat) (v1 : Int32) (v3 : Int32) (s0 : Int32) (S : Mem), F_X6_read_J97 K65 v0 v1 v3 s0 S = some (r, S') → Run g l uX6_read (fin g uX6_read (cvI r) S') 97 [(0, .ref v0), (1, .int v1), (3, .int v3)] [.int s0] 0 0 S := by
  intro v0 v1 v3 s0 S h
  unfold F_X6_read_J97 at h
  refine r_istore_n (lv' := [(2, .int s0), (0, .ref v0), (1, .int v1), (3, .int v3)]) dX6_read_97 rfl (by decide) rfl ?_
  refine r_iinc (v := v3 + 1) (lv' := [(3, .int (v3 + 1)), (2, .int s0), (0, .ref v0), (1, .int v1)]) dX6_read_98 3 rfl rfl (by decide) rfl ?_
  refine r_goto (tgt := 65) dX6_read_101 (by decide) ?_
  refine r_sub [2, 3, 1, 0] rfl ?_
  exact hK65 v0 v1 s0 (v3 + 1) S h

def F_X6_read_L65 : Nat → Nat → Int32 → Int32 → Int32 → Mem → Option (Int32 × Mem)
  | 0, _, _, _, _, _ => none
  | fu + 1, v0, v1, v2, v3, S =>
    (pgI 6 9 S v0).bind fun t9 =>
    if t9 ≤ v3 then
      F_X6_read_J104 v0 v1 v2 S
    else
      if v2 = 0 then
        F_X6_read_J104 v0 v1 v2 S
      else
        (pgR 6 6 S v0).bind fun t12 =>
        (paI S t12 v3).bind fun t13 =>
        (pgR 6 8 S v0).bind fun t14 =>
        (paI S t14 v3).bind fun t15 =>
        if t13 = t15 then
          F_X6_read_J97 (F_X6_read_L65 fu) v0 v1 v3 (1 : Int32) S
        else
          F_X6_read_J97 (F_X6_read_L65 fu) v0 v1 v3 (0 : Int32) S
set_option maxRecDepth 100000 in
theorem T_X6_read_L65 {g : GG} {l : Launch} (hl : l.stackTraces = false) {S' : Mem} {r : Int32}  : ∀ (fu : Nat) (v0 : Nat) (v1 : Int32) (v2 : Int32) (v3 : Int32) (S : Mem), F_X6_read_L65 fu v0 v1 v2 v3 S = some (r, S') → Run g l uX6_read (fin g uX6_read (cvI r) S') 65 [(0, .ref v0), (1, .int v1), (2, .int v2), (3, .int v3)] [] 0 0 S := by
  intro fu
  induction fu with
  | zero =>
    intro v0 v1 v2 v3 S h
    cases (show none = some _ from h)
  | succ fu ih =>
    intro v0 v1 v2 v3 S h
    unfold F_X6_read_L65 at h
    refine r_iload_n dX6_read_65 rfl 3 rfl ?_
    refine r_aload_n dX6_read_66 rfl 0 rfl ?_
    obtain ⟨t9, h0, h⟩ := bd h
    refine q_getI h0 dX6_read_67 fl6_136 rfl ?_
    refine r_icmp_ge (tgt := 104) dX6_read_70 (by decide) (fun c10 => ?_) (fun c10 => ?_)
    · rw [if_pos c10] at h
      refine r_sub [0, 1, 2] rfl ?_
      exact T_X6_read_J104 hl v0 v1 v2 S h
    · rw [if_neg c10] at h
      refine r_iload_n dX6_read_73 rfl 2 rfl ?_
      refine r_if_eq (tgt := 104) dX6_read_74 (by decide) (fun c11 => ?_) (fun c11 => ?_)
      · rw [if_pos c11] at h
        refine r_sub [0, 1, 2] rfl ?_
        exact T_X6_read_J104 hl v0 v1 v2 S h
      · rw [if_neg c11] at h
        refine r_aload_n dX6_read_77 rfl 0 rfl ?_
        obtain ⟨t12, h0, h⟩ := bd h
        refine q_getR h0 dX6_read_78 fl6_16 rfl ?_
        refine r_iload_n dX6_read_81 rfl 3 rfl ?_
        obtain ⟨t13, h0, h⟩ := bd h
        refine q_iaload h0 dX6_read_82 ?_
        refine r_aload_n dX6_read_83 rfl 0 rfl ?_
        obtain ⟨t14, h0, h⟩ := bd h
        refine q_getR h0 dX6_read_84 fl6_19 rfl ?_
        refine r_iload_n dX6_read_87 rfl 3 rfl ?_
        obtain ⟨t15, h0, h⟩ := bd h
        refine q_iaload h0 dX6_read_88 ?_
        refine r_icmp_ne (tgt := 96) dX6_read_89 (by decide) (fun c16 => ?_) (fun c16 => ?_)
        · rw [if_neg c16] at h
          refine r_iconst (v := (0 : Int32)) dX6_read_96 (by decide) ?_
          refine r_sub [0, 1, 3] rfl ?_
          exact T_X6_read_J97 hl (fun v0 v1 v2 v3 S h => ih v0 v1 v2 v3 S h) v0 v1 v3 (0 : Int32) S h
        · rw [if_pos c16] at h
          refine r_iconst (v := (1 : Int32)) dX6_read_92 (by decide) ?_
          refine r_goto (tgt := 97) dX6_read_93 (by decide) ?_
          refine r_sub [0, 1, 3] rfl ?_
          exact T_X6_read_J97 hl (fun v0 v1 v2 v3 S h => ih v0 v1 v2 v3 S h) v0 v1 v3 (1 : Int32) S h

def F_X6_read_J62 (v0 : Nat) (v1 : Int32) (s0 : Int32) (S : Mem) : Option (Int32 × Mem) :=
    F_X6_read_L65 FU v0 v1 s0 (0 : Int32) S
set_option maxRecDepth 100000 in
theorem T_X6_read_J62 {g : GG} {l : Launch} (hl : l.stackTraces = false) {S' : Mem} {r : Int32}  : ∀ (v0 : Nat) (v1 : Int32) (s0 : Int32) (S : Mem), F_X6_read_J62 v0 v1 s0 S = some (r, S') → Run g l uX6_read (fin g uX6_read (cvI r) S') 62 [(0, .ref v0), (1, .int v1)] [.int s0] 0 0 S := by
  intro v0 v1 s0 S h
  unfold F_X6_read_J62 at h
  refine r_istore_n (lv' := [(2, .int s0), (0, .ref v0), (1, .int v1)]) dX6_read_62 rfl (by decide) rfl ?_
  refine r_iconst (v := (0 : Int32)) dX6_read_63 (by decide) ?_
  refine r_istore_n (lv' := [(3, .int ((0 : Int32))), (2, .int s0), (0, .ref v0), (1, .int v1)]) dX6_read_64 rfl (by decide) rfl ?_
  refine r_sub [2, 3, 1, 0] rfl ?_
  exact T_X6_read_L65 hl FU v0 v1 s0 (0 : Int32) S h

def F_X6_read_J61 (v0 : Nat) (v1 : Int32) (S : Mem) : Option (Int32 × Mem) :=
    F_X6_read_J62 v0 v1 (0 : Int32) S
set_option maxRecDepth 100000 in
theorem T_X6_read_J61 {g : GG} {l : Launch} (hl : l.stackTraces = false) {S' : Mem} {r : Int32}  : ∀ (v0 : Nat) (v1 : Int32) (S : Mem), F_X6_read_J61 v0 v1 S = some (r, S') → Run g l uX6_read (fin g uX6_read (cvI r) S') 61 [(0, .ref v0), (1, .int v1)] [] 0 0 S := by
  intro v0 v1 S h
  unfold F_X6_read_J61 at h
  refine r_iconst (v := (0 : Int32)) dX6_read_61 (by decide) ?_
  exact T_X6_read_J62 hl v0 v1 (0 : Int32) S h

def F_X6_read_J42 (v0 : Nat) (v1 : Int32) (v2 : Int32) (S : Mem) : Option (Int32 × Mem) :=
    if v2 = 0 then
      F_X6_read_J61 v0 v1 S
    else
      (pgI 6 7 S v0).bind fun t18 =>
      (pgI 6 9 S v0).bind fun t19 =>
      if t18 = t19 then
        F_X6_read_J62 v0 v1 (1 : Int32) S
      else
        F_X6_read_J61 v0 v1 S
set_option maxRecDepth 100000 in
theorem T_X6_read_J42 {g : GG} {l : Launch} (hl : l.stackTraces = false) {S' : Mem} {r : Int32}  : ∀ (v0 : Nat) (v1 : Int32) (v2 : Int32) (S : Mem), F_X6_read_J42 v0 v1 v2 S = some (r, S') → Run g l uX6_read (fin g uX6_read (cvI r) S') 42 [(0, .ref v0), (1, .int v1), (2, .int v2)] [] 0 0 S := by
  intro v0 v1 v2 S h
  unfold F_X6_read_J42 at h
  refine r_iload_n dX6_read_42 rfl 2 rfl ?_
  refine r_if_eq (tgt := 61) dX6_read_43 (by decide) (fun c17 => ?_) (fun c17 => ?_)
  · rw [if_pos c17] at h
    refine r_sub [0, 1] rfl ?_
    exact T_X6_read_J61 hl v0 v1 S h
  · rw [if_neg c17] at h
    refine r_aload_n dX6_read_46 rfl 0 rfl ?_
    obtain ⟨t18, h0, h⟩ := bd h
    refine q_getI h0 dX6_read_47 fl6_121 rfl ?_
    refine r_aload_n dX6_read_50 rfl 0 rfl ?_
    obtain ⟨t19, h0, h⟩ := bd h
    refine q_getI h0 dX6_read_51 fl6_136 rfl ?_
    refine r_icmp_ne (tgt := 61) dX6_read_54 (by decide) (fun c20 => ?_) (fun c20 => ?_)
    · rw [if_neg c20] at h
      refine r_sub [0, 1] rfl ?_
      exact T_X6_read_J61 hl v0 v1 S h
    · rw [if_pos c20] at h
      refine r_iconst (v := (1 : Int32)) dX6_read_57 (by decide) ?_
      refine r_goto (tgt := 62) dX6_read_58 (by decide) ?_
      refine r_sub [0, 1] rfl ?_
      exact T_X6_read_J62 hl v0 v1 (1 : Int32) S h

def F_X6_read_J31 (v0 : Nat) (v1 : Int32) (s0 : Int32) (S : Mem) : Option (Int32 × Mem) :=
    if s0 = 0 then
      F_X6_read_J42 v0 v1 s0 S
    else
      (pk 6 S v0).bind fun _ =>
      (F_X6_writeOut v0 (25 : Int32) S).bind fun S24 =>
      F_X6_read_J42 v0 v1 s0 S24
set_option maxRecDepth 100000 in
theorem T_X6_read_J31 {g : GG} {l : Launch} (hl : l.stackTraces = false) {S' : Mem} {r : Int32}  : ∀ (v0 : Nat) (v1 : Int32) (s0 : Int32) (S : Mem), F_X6_read_J31 v0 v1 s0 S = some (r, S') → Run g l uX6_read (fin g uX6_read (cvI r) S') 31 [(0, .ref v0), (1, .int v1)] [.int s0] 0 0 S := by
  intro v0 v1 s0 S h
  unfold F_X6_read_J31 at h
  refine r_istore_n (lv' := [(2, .int s0), (0, .ref v0), (1, .int v1)]) dX6_read_31 rfl (by decide) rfl ?_
  refine r_iload_n dX6_read_32 rfl 0 rfl ?_
  refine r_if_eq (tgt := 42) dX6_read_33 (by decide) (fun c21 => ?_) (fun c21 => ?_)
  · rw [if_pos c21] at h
    refine r_sub [1, 2, 0] rfl ?_
    exact T_X6_read_J42 hl v0 v1 s0 S h
  · rw [if_neg c21] at h
    refine r_aload_n dX6_read_36 rfl 1 rfl ?_
    refine r_bipush (v := (25 : Int32)) dX6_read_37 (by decide) ?_
    obtain ⟨z22, hk, h⟩ := bd h
    obtain ⟨S24, h0, h⟩ := bd h
    refine r_invV (As := [.int ((25 : Int32))]) (st := []) dX6_read_39 lv6_133 (by unfold RM; decide) (Nat.le_of_ble_eq_true rfl) rfl rfl (pk_ok hk) (T_X6_writeOut hl h0) ?_
    refine r_sub [1, 2, 0] rfl ?_
    exact T_X6_read_J42 hl v0 v1 s0 S24 h

def F_X6_read_J30 (v0 : Nat) (v1 : Int32) (S : Mem) : Option (Int32 × Mem) :=
    F_X6_read_J31 v0 v1 (0 : Int32) S
set_option maxRecDepth 100000 in
theorem T_X6_read_J30 {g : GG} {l : Launch} (hl : l.stackTraces = false) {S' : Mem} {r : Int32}  : ∀ (v0 : Nat) (v1 : Int32) (S : Mem), F_X6_read_J30 v0 v1 S = some (r, S') → Run g l uX6_read (fin g uX6_read (cvI r) S') 30 [(0, .ref v0), (1, .int v1)] [] 0 0 S := by
  intro v0 v1 S h
  unfold F_X6_read_J30 at h
  refine r_iconst (v := (0 : Int32)) dX6_read_30 (by decide) ?_
  exact T_X6_read_J31 hl v0 v1 (0 : Int32) S h

def F_X6_read_J14 (v0 : Nat) (s0 : Int32) (S : Mem) : Option (Int32 × Mem) :=
    if s0 = 0 then
      (pk 6 S v0).bind fun _ =>
      bd2 (F_X6_taken v0 S) fun t27 S28 =>
      if t27 = 0 then
        F_X6_read_J30 v0 s0 S28
      else
        F_X6_read_J31 v0 s0 (1 : Int32) S28
    else
      F_X6_read_J30 v0 s0 S
set_option maxRecDepth 100000 in
theorem T_X6_read_J14 {g : GG} {l : Launch} (hl : l.stackTraces = false) {S' : Mem} {r : Int32}  : ∀ (v0 : Nat) (s0 : Int32) (S : Mem), F_X6_read_J14 v0 s0 S = some (r, S') → Run g l uX6_read (fin g uX6_read (cvI r) S') 14 [(0, .ref v0)] [.int s0] 0 0 S := by
  intro v0 s0 S h
  unfold F_X6_read_J14 at h
  refine r_istore_n (lv' := [(1, .int s0), (0, .ref v0)]) dX6_read_14 rfl (by decide) rfl ?_
  refine r_iload_n dX6_read_15 rfl 0 rfl ?_
  refine r_if_ne (tgt := 30) dX6_read_16 (by decide) (fun c25 => ?_) (fun c25 => ?_)
  · rw [if_neg c25] at h
    refine r_sub [1, 0] rfl ?_
    exact T_X6_read_J30 hl v0 s0 S h
  · rw [if_pos c25] at h
    refine r_aload_n dX6_read_19 rfl 1 rfl ?_
    obtain ⟨z26, hk, h⟩ := bd h
    obtain ⟨t27, S28, h0, h⟩ := bd2_s h
    refine r_invV (As := []) (st := []) dX6_read_20 lv6_156 (by unfold RM; decide) (Nat.le_of_ble_eq_true rfl) rfl rfl (pk_ok hk) (T_X6_taken hl h0) ?_
    refine r_if_eq (tgt := 30) dX6_read_23 (by decide) (fun c29 => ?_) (fun c29 => ?_)
    · rw [if_pos c29] at h
      refine r_sub [1, 0] rfl ?_
      exact T_X6_read_J30 hl v0 s0 S28 h
    · rw [if_neg c29] at h
      refine r_iconst (v := (1 : Int32)) dX6_read_26 (by decide) ?_
      refine r_goto (tgt := 31) dX6_read_27 (by decide) ?_
      refine r_sub [1, 0] rfl ?_
      exact T_X6_read_J31 hl v0 s0 (1 : Int32) S28 h

def F_X6_read (v0 : Nat) (S : Mem) : Option (Int32 × Mem) :=
    (pgI 6 4 S v0).bind fun t30 =>
    if t30 = (24 : Int32) then
      F_X6_read_J14 v0 (1 : Int32) S
    else
      F_X6_read_J14 v0 (0 : Int32) S
set_option maxRecDepth 100000 in
theorem T_X6_read {g : GG} {l : Launch} (hl : l.stackTraces = false) {v0 : Nat} {S S' : Mem} {r : Int32} (h : F_X6_read v0 S = some (r, S')) : Call g l uX6_read [.ref v0] S (cvI r) S' := by
  refine call_of (by decide +kernel) hl rfl (Nat.le_of_ble_eq_true rfl) ?_
  show Run g l uX6_read _ 0 [(0, .ref v0)] [] 0 0 S
  unfold F_X6_read at h
  refine r_aload_n dX6_read_0 rfl 0 rfl ?_
  obtain ⟨t30, h0, h⟩ := bd h
  refine q_getI h0 dX6_read_1 fl6_44 rfl ?_
  refine r_bipush (v := (24 : Int32)) dX6_read_4 (by decide) ?_
  refine r_icmp_ne (tgt := 13) dX6_read_6 (by decide) (fun c31 => ?_) (fun c31 => ?_)
  · rw [if_neg c31] at h
    refine r_iconst (v := (0 : Int32)) dX6_read_13 (by decide) ?_
    exact T_X6_read_J14 hl v0 (0 : Int32) S h
  · rw [if_pos c31] at h
    refine r_iconst (v := (1 : Int32)) dX6_read_9 (by decide) ?_
    refine r_goto (tgt := 14) dX6_read_10 (by decide) ?_
    exact T_X6_read_J14 hl v0 (1 : Int32) S h

