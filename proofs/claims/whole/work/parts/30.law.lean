def uL_law : MU := (yL_law, cL_law, 8, some .boolean, room_1, [], false)
/-- the law's end: it answers true, nothing that was there is written -/
def lawQ : FQ := fun args below s A t => (∀ q, A q → s.heap.size ≤ q) → lw_Z below args s t
theorem r_lawret {g : GG} {l : Launch} {pc : Nat} {lv : List (Nat × Value)} {k n : Nat} {S : Mem} (hd : decode (uC uL_law) pc = .ok (.ireturn, 1)) (h1 : k ≤ 600128) (h2 : n ≤ 7301098) : Run g l uL_law lawQ pc lv [.int 1] k n S := by
  intro p e s m args below meth c A H locs ls C hW hS hl
  by_cases hA : ∀ q, A q → s.heap.size ≤ q
  · refine va_forget (fun q hq => hA _ (hS.2.2 q hq)) (W.widen h1 h2 ?_)
    have hw := @lw_retA p l e s m below meth c args C.1 C.2.1 C.2.2.1 C.2.2.2.2.2.1 pc H ls hd
    intro T hT X
    obtain ⟨t, a, b⟩ := hw T hT X
    exact ⟨t, a, fun _ => b⟩
  · intro T hT X
    exact ⟨_, Steps.refl _, fun h => absurd h hA⟩
theorem ltL_158 : LT9 RL 158 uL_mean 4 := ⟨(mt3 230 rfl), (mt1 0 rfl), by decide +kernel, by decide +kernel, (mt3 232 rfl), (mt3 231 rfl)⟩
theorem lvL_161 : LV RL 161 uX6_mean 2 6 := ⟨⟨(mt5 16 rfl), (mt1 7 rfl), by decide +kernel, by decide +kernel, (mt5 19 rfl)⟩, (mt5 17 rfl), (mt5 18 rfl), by decide, _, _, rfl⟩
theorem lvL_94 : LV RL 94 uX6_thrown 0 6 := ⟨⟨(mt4 39 rfl), (mt1 7 rfl), by decide +kernel, by decide +kernel, (mt4 42 rfl)⟩, (mt4 40 rfl), (mt4 41 rfl), by decide, _, _, rfl⟩
theorem ltL_155 : LT9 RL 155 uL_found 4 := ⟨(mt3 215 rfl), (mt1 0 rfl), by decide +kernel, by decide +kernel, (mt3 217 rfl), (mt3 216 rfl)⟩
theorem lvL_157 : LV RL 157 uX6_found 2 6 := ⟨⟨(mt5 4 rfl), (mt1 7 rfl), by decide +kernel, by decide +kernel, (mt5 7 rfl)⟩, (mt5 5 rfl), (mt5 6 rfl), by decide, _, _, rfl⟩
theorem ltL_151 : LT9 RL 151 uL_base 5 := ⟨(mt3 206 rfl), (mt1 0 rfl), by decide +kernel, by decide +kernel, (mt3 208 rfl), (mt3 207 rfl)⟩
theorem lvL_154 : LV RL 154 uX6_base 3 6 := ⟨⟨(mt5 0 rfl), (mt1 7 rfl), by decide +kernel, by decide +kernel, (mt5 3 rfl)⟩, (mt5 1 rfl), (mt5 2 rfl), by decide, _, _, rfl⟩
theorem ltL_148 : LT9 RL 148 uL_about 4 := ⟨(mt3 190 rfl), (mt1 0 rfl), by decide +kernel, by decide +kernel, (mt3 192 rfl), (mt3 191 rfl)⟩
theorem lvL_150 : LV RL 150 uX6_about 2 6 := ⟨⟨(mt4 232 rfl), (mt1 7 rfl), by decide +kernel, by decide +kernel, (mt4 235 rfl)⟩, (mt4 233 rfl), (mt4 234 rfl), by decide, _, _, rfl⟩
theorem lvL_144 : LV RL 144 uX5_records 0 5 := ⟨⟨(mt1 185 rfl), (mt1 1 rfl), by decide +kernel, by decide +kernel, (mt1 188 rfl)⟩, (mt1 186 rfl), (mt1 187 rfl), by decide, _, _, rfl⟩
theorem lvL_147 : LV RL 147 uX6_records 0 6 := ⟨⟨(mt4 228 rfl), (mt1 7 rfl), by decide +kernel, by decide +kernel, (mt4 231 rfl)⟩, (mt4 229 rfl), (mt4 230 rfl), by decide, _, _, rfl⟩
theorem ltL_141 : LT9 RL 141 uL_read 2 := ⟨(mt3 140 rfl), (mt1 0 rfl), by decide +kernel, by decide +kernel, (mt3 142 rfl), (mt3 141 rfl)⟩
theorem lvL_143 : LV RL 143 uX6_read 0 6 := ⟨⟨(mt4 201 rfl), (mt1 7 rfl), by decide +kernel, by decide +kernel, (mt4 204 rfl)⟩, (mt4 202 rfl), (mt4 203 rfl), by decide, _, _, rfl⟩
theorem wlL_86 : Cond.constantLong RL 86 (4294967295 : Int64) ∈ lw_tbl := (mt5 21 rfl)
theorem ltL_137 : LT9 RL 137 uL_type 3 := ⟨(mt3 131 rfl), (mt1 0 rfl), by decide +kernel, by decide +kernel, (mt3 133 rfl), (mt3 132 rfl)⟩
theorem lvL_140 : LV RL 140 uX6_type 2 6 := ⟨⟨(mt4 196 rfl), (mt1 7 rfl), by decide +kernel, by decide +kernel, (mt4 199 rfl)⟩, (mt4 197 rfl), (mt4 198 rfl), by decide, _, _, rfl⟩
theorem ltL_133 : LT9 RL 133 uL_written 4 := ⟨(mt3 83 rfl), (mt1 0 rfl), by decide +kernel, by decide +kernel, (mt3 85 rfl), (mt3 84 rfl)⟩
theorem lvL_136 : LV RL 136 uX6_written 2 6 := ⟨⟨(mt4 177 rfl), (mt1 7 rfl), by decide +kernel, by decide +kernel, (mt4 180 rfl)⟩, (mt4 178 rfl), (mt4 179 rfl), by decide, _, _, rfl⟩
theorem ltL_130 : LT9 RL 130 uL_join 2 := ⟨(mt3 17 rfl), (mt1 0 rfl), by decide +kernel, by decide +kernel, (mt3 19 rfl), (mt3 18 rfl)⟩
theorem lvL_132 : LV RL 132 uX6_join 1 6 := ⟨⟨(mt4 157 rfl), (mt1 7 rfl), by decide +kernel, by decide +kernel, (mt4 160 rfl)⟩, (mt4 158 rfl), (mt4 159 rfl), by decide, _, _, rfl⟩
theorem ltL_127 : LT9 RL 127 uL_split 3 := ⟨(mt2 230 rfl), (mt1 0 rfl), by decide +kernel, by decide +kernel, (mt2 232 rfl), (mt2 231 rfl)⟩
theorem lvL_129 : LV RL 129 uX6_split 1 6 := ⟨⟨(mt4 146 rfl), (mt1 7 rfl), by decide +kernel, by decide +kernel, (mt4 149 rfl)⟩, (mt4 147 rfl), (mt4 148 rfl), by decide, _, _, rfl⟩
theorem ltL_123 : LT9 RL 123 uL_normalise 3 := ⟨(mt2 188 rfl), (mt1 0 rfl), by decide +kernel, by decide +kernel, (mt2 190 rfl), (mt2 189 rfl)⟩
theorem lvL_126 : LV RL 126 uX6_normalise 1 6 := ⟨⟨(mt4 126 rfl), (mt1 7 rfl), by decide +kernel, by decide +kernel, (mt4 129 rfl)⟩, (mt4 127 rfl), (mt4 128 rfl), by decide, _, _, rfl⟩
theorem ltL_119 : LT9 RL 119 uL_remove 2 := ⟨(mt2 172 rfl), (mt1 0 rfl), by decide +kernel, by decide +kernel, (mt2 174 rfl), (mt2 173 rfl)⟩
theorem lvL_122 : LV RL 122 uX6_remove 1 6 := ⟨⟨(mt4 118 rfl), (mt1 7 rfl), by decide +kernel, by decide +kernel, (mt4 121 rfl)⟩, (mt4 119 rfl), (mt4 120 rfl), by decide, _, _, rfl⟩
theorem ltL_115 : LT9 RL 115 uL_add 2 := ⟨(mt2 144 rfl), (mt1 0 rfl), by decide +kernel, by decide +kernel, (mt2 146 rfl), (mt2 145 rfl)⟩
theorem lvL_118 : LV RL 118 uX6_add 0 6 := ⟨⟨(mt4 102 rfl), (mt1 7 rfl), by decide +kernel, by decide +kernel, (mt4 105 rfl)⟩, (mt4 103 rfl), (mt4 104 rfl), by decide, _, _, rfl⟩
theorem ltL_112 : LT9 RL 112 uL_likelihood 4 := ⟨(mt2 131 rfl), (mt1 0 rfl), by decide +kernel, by decide +kernel, (mt2 133 rfl), (mt2 132 rfl)⟩
theorem lvL_114 : LV RL 114 uX6_likelihood 3 6 := ⟨⟨(mt4 95 rfl), (mt1 7 rfl), by decide +kernel, by decide +kernel, (mt4 98 rfl)⟩, (mt4 96 rfl), (mt4 97 rfl), by decide, _, _, rfl⟩
theorem lvL_111 : LV RL 111 uX6_genotype 4 6 := ⟨⟨(mt4 91 rfl), (mt1 7 rfl), by decide +kernel, by decide +kernel, (mt4 94 rfl)⟩, (mt4 92 rfl), (mt4 93 rfl), by decide, _, _, rfl⟩
theorem ltL_108 : LT9 RL 108 uL_genotype 5 := ⟨(mt2 114 rfl), (mt1 0 rfl), by decide +kernel, by decide +kernel, (mt2 116 rfl), (mt2 115 rfl)⟩
theorem ltL_104 : LT9 RL 104 uL_depth 4 := ⟨(mt2 98 rfl), (mt1 0 rfl), by decide +kernel, by decide +kernel, (mt2 100 rfl), (mt2 99 rfl)⟩
theorem lvL_107 : LV RL 107 uX6_depth 3 6 := ⟨⟨(mt4 84 rfl), (mt1 7 rfl), by decide +kernel, by decide +kernel, (mt4 87 rfl)⟩, (mt4 85 rfl), (mt4 86 rfl), by decide, _, _, rfl⟩
theorem ltL_101 : LT9 RL 101 uL_allele 4 := ⟨(mt2 80 rfl), (mt1 0 rfl), by decide +kernel, by decide +kernel, (mt2 82 rfl), (mt2 81 rfl)⟩
theorem lvL_103 : LV RL 103 uX6_allele 2 6 := ⟨⟨(mt4 76 rfl), (mt1 7 rfl), by decide +kernel, by decide +kernel, (mt4 79 rfl)⟩, (mt4 77 rfl), (mt4 78 rfl), by decide, _, _, rfl⟩
theorem ltL_97 : LT9 RL 97 uL_draft 3 := ⟨(mt2 51 rfl), (mt1 0 rfl), by decide +kernel, by decide +kernel, (mt2 53 rfl), (mt2 52 rfl)⟩
theorem lvL_100 : LV RL 100 uX6_draft 2 6 := ⟨⟨(mt4 52 rfl), (mt1 7 rfl), by decide +kernel, by decide +kernel, (mt4 55 rfl)⟩, (mt4 53 rfl), (mt4 54 rfl), by decide, _, _, rfl⟩
theorem ltL_88 : LT9 RL 88 uL_reference 4 := ⟨(mt1 189 rfl), (mt1 0 rfl), by decide +kernel, by decide +kernel, (mt1 191 rfl), (mt1 190 rfl)⟩
theorem lvL_93 : LV RL 93 uX6_reference 2 6 := ⟨⟨(mt4 43 rfl), (mt1 7 rfl), by decide +kernel, by decide +kernel, (mt4 46 rfl)⟩, (mt4 44 rfl), (mt4 45 rfl), by decide, _, _, rfl⟩
def F_L_law_J1331 (g : GG) (K28 : Nat → Nat → Nat → Nat → Int32 → Mem → Option Unit) (v1 : Nat) (v2 : Nat) (v3 : Nat) (v4 : Nat) (v5 : Int32) (S : Mem) : Option Unit :=
    K28 v1 v2 v3 v4 (v5 + 5) S
set_option maxRecDepth 100000 in
theorem T_L_law_J1331 {g : GG} {l : Launch} (hl : l.stackTraces = false) (fu : Nat) {K28 : Nat → Nat → Nat → Nat → Int32 → Mem → Option Unit} (hK28 : ∀ (v1 : Nat) (v2 : Nat) (v3 : Nat) (v4 : Nat) (v5 : Int32) (S : Mem) (k n : Nat), k + 2 * fu ≤ 600128 → n + 12 * fu ≤ 7301098 → K28 v1 v2 v3 v4 v5 S = some () → Run g l uL_law lawQ 28 [(0, .ref g.2.2.2.1), (1, .ref v1), (2, .ref v2), (3, .ref v3), (4, .ref v4), (5, .int v5)] [] k n S) : ∀ (v1 : Nat) (v2 : Nat) (v3 : Nat) (v4 : Nat) (v5 : Int32) (S : Mem) (k n : Nat), k + 2 * fu ≤ 600128 → n + 12 * fu ≤ 7301098 → F_L_law_J1331 g K28 v1 v2 v3 v4 v5 S = some () → Run g l uL_law lawQ 1331 [(0, .ref g.2.2.2.1), (1, .ref v1), (2, .ref v2), (3, .ref v3), (4, .ref v4), (5, .int v5)] [] k n S := by
  intro v1 v2 v3 v4 v5 S k n q1 q2 h
  unfold F_L_law_J1331 at h
  refine r_iinc (v := v5 + 5) (lv' := [(5, .int (v5 + 5)), (0, .ref g.2.2.2.1), (1, .ref v1), (2, .ref v2), (3, .ref v3), (4, .ref v4)]) dL_law_1331 5 rfl rfl (by decide) rfl ?_
  refine r_goto (tgt := 28) dL_law_1334 (by decide) ?_
  refine r_sub [1, 2, 3, 4, 5, 0] rfl ?_
  exact hK28 v1 v2 v3 v4 (v5 + 5) S k n (by omega) (by omega) h

def F_L_law_J1328 (g : GG) (K28 : Nat → Nat → Nat → Nat → Int32 → Mem → Option Unit) (v1 : Nat) (v2 : Nat) (v3 : Nat) (v4 : Nat) (v5 : Int32) (S : Mem) : Option Unit :=
    F_L_law_J1331 g K28 v1 v2 v3 v4 v5 S
set_option maxRecDepth 100000 in
theorem T_L_law_J1328 {g : GG} {l : Launch} (hl : l.stackTraces = false) (fu : Nat) {K28 : Nat → Nat → Nat → Nat → Int32 → Mem → Option Unit} (hK28 : ∀ (v1 : Nat) (v2 : Nat) (v3 : Nat) (v4 : Nat) (v5 : Int32) (S : Mem) (k n : Nat), k + 2 * fu ≤ 600128 → n + 12 * fu ≤ 7301098 → K28 v1 v2 v3 v4 v5 S = some () → Run g l uL_law lawQ 28 [(0, .ref g.2.2.2.1), (1, .ref v1), (2, .ref v2), (3, .ref v3), (4, .ref v4), (5, .int v5)] [] k n S) : ∀ (v1 : Nat) (v2 : Nat) (v3 : Nat) (v4 : Nat) (v5 : Int32) (S : Mem) (k n : Nat), k + 2 * fu ≤ 600128 → n + 12 * fu ≤ 7301098 → F_L_law_J1328 g K28 v1 v2 v3 v4 v5 S = some () → Run g l uL_law lawQ 1328 [(0, .ref g.2.2.2.1), (1, .ref v1), (2, .ref v2), (3, .ref v3), (4, .ref v4), (5, .int v5)] [] k n S := by
  intro v1 v2 v3 v4 v5 S k n q1 q2 h
  unfold F_L_law_J1328 at h
  refine r_goto (tgt := 1331) dL_law_1328 (by decide) ?_
  exact T_L_law_J1331 hl fu hK28 v1 v2 v3 v4 v5 S k n (by omega) (by omega) h

def F_L_law_J1241 (g : GG) (K28 : Nat → Nat → Nat → Nat → Int32 → Mem → Option Unit) (v1 : Nat) (v2 : Nat) (v3 : Nat) (v4 : Nat) (v5 : Int32) (S : Mem) : Option Unit :=
    (ptX g (v5 + (1 : Int32))).bind fun t1 =>
    (ptX g (v5 + (2 : Int32))).bind fun t2 =>
    bd2 (F_L_mean v1 t1 t2 v4 S) fun t3 S4 =>
    (ptX g (v5 + (1 : Int32))).bind fun t5 =>
    (ptX g (v5 + (2 : Int32))).bind fun t6 =>
    (pk 6 S4 v2).bind fun _ =>
    bd2 (F_X6_mean v2 t5 t6 S4) fun t8 S9 =>
    (pk 6 S9 v2).bind fun _ =>
    bd2 (F_X6_thrown v2 S9) fun t11 S12 =>
    if t11 = t3 then
      if t3 = 0 then
        (paD S12 v4 (0 : Int32)).bind fun t15 =>
        (pf2d t8).bind fun t16 =>
        if (Op.cmpValue (FP.dcmp t15 t16) .l) = 0 then
          F_L_law_J1328 g K28 v1 v2 v3 v4 v5 S12
        else
          (paD S12 v4 (0 : Int32)).bind fun t18 =>
          (paD S12 v4 (0 : Int32)).bind fun t19 =>
          if (Op.cmpValue (FP.dcmp t18 t19) .l) = 0 then
            none
          else
            if (Op.cmpValue (FP.fcmp t8 t8) .l) = 0 then
              none
            else
              F_L_law_J1328 g K28 v1 v2 v3 v4 v5 S12
      else
        F_L_law_J1328 g K28 v1 v2 v3 v4 v5 S12
    else
      none
set_option maxRecDepth 100000 in
theorem T_L_law_J1241 {g : GG} {l : Launch} (hl : l.stackTraces = false) (fu : Nat) {K28 : Nat → Nat → Nat → Nat → Int32 → Mem → Option Unit} (hK28 : ∀ (v1 : Nat) (v2 : Nat) (v3 : Nat) (v4 : Nat) (v5 : Int32) (S : Mem) (k n : Nat), k + 2 * fu ≤ 600128 → n + 12 * fu ≤ 7301098 → K28 v1 v2 v3 v4 v5 S = some () → Run g l uL_law lawQ 28 [(0, .ref g.2.2.2.1), (1, .ref v1), (2, .ref v2), (3, .ref v3), (4, .ref v4), (5, .int v5)] [] k n S) : ∀ (v1 : Nat) (v2 : Nat) (v3 : Nat) (v4 : Nat) (v5 : Int32) (S : Mem) (k n : Nat), k + 2 + 2 * fu ≤ 600128 → n + 12 + 12 * fu ≤ 7301098 → F_L_law_J1241 g K28 v1 v2 v3 v4 v5 S = some () → Run g l uL_law lawQ 1241 [(0, .ref g.2.2.2.1), (1, .ref v1), (2, .ref v2), (3, .ref v3), (4, .ref v4), (5, .int v5)] [] k n S := by
  intro v1 v2 v3 v4 v5 S k n q1 q2 h
  unfold F_L_law_J1241 at h
  refine r_aload_n dL_law_1241 rfl 1 rfl ?_
  refine r_aload_n dL_law_1242 rfl 0 rfl ?_
  refine r_iload dL_law_1243 5 rfl ?_
  refine r_iconst (v := (1 : Int32)) dL_law_1245 (by decide) ?_
  refine r_iadd dL_law_1246 ?_
  obtain ⟨t1, h0, h⟩ := bd h
  refine q_script h0 dL_law_1247 ?_
  refine r_aload_n dL_law_1248 rfl 0 rfl ?_
  refine r_iload dL_law_1249 5 rfl ?_
  refine r_iconst (v := (2 : Int32)) dL_law_1251 (by decide) ?_
  refine r_iadd dL_law_1252 ?_
  obtain ⟨t2, h0, h⟩ := bd h
  refine q_script h0 dL_law_1253 ?_
  refine r_aload dL_law_1254 4 rfl ?_
  obtain ⟨t3, S4, h0, h⟩ := bd2_s h
  refine r_invT (As := [.ref v1, .int t1, .int t2, .ref v4]) (st := []) dL_law_1256 ltL_158 ⟨by decide, by decide, by show k + 2 ≤ 600128; omega, by show n + 12 ≤ 7301098; omega, rfl, fun q => by cases q⟩ (Nat.le_of_ble_eq_true rfl) rfl rfl (T_L_mean hl h0) ?_
  refine r_istore (lv' := [(6, .int t3), (0, .ref g.2.2.2.1), (1, .ref v1), (2, .ref v2), (3, .ref v3), (4, .ref v4), (5, .int v5)]) dL_law_1259 (by decide) rfl ?_
  refine r_aload_n dL_law_1261 rfl 3 rfl ?_
  refine r_aload_n dL_law_1262 rfl 1 rfl ?_
  refine r_iload dL_law_1263 6 rfl ?_
  refine r_iconst (v := (1 : Int32)) dL_law_1265 (by decide) ?_
  refine r_iadd dL_law_1266 ?_
  obtain ⟨t5, h0, h⟩ := bd h
  refine q_script h0 dL_law_1267 ?_
  refine r_aload_n dL_law_1268 rfl 1 rfl ?_
  refine r_iload dL_law_1269 6 rfl ?_
  refine r_iconst (v := (2 : Int32)) dL_law_1271 (by decide) ?_
  refine r_iadd dL_law_1272 ?_
  obtain ⟨t6, h0, h⟩ := bd h
  refine q_script h0 dL_law_1273 ?_
  obtain ⟨z7, hk, h⟩ := bd h
  obtain ⟨t8, S9, h0, h⟩ := bd2_s h
  refine r_invV (As := [.int t5, .int t6]) (st := []) dL_law_1274 lvL_161 ⟨by decide, by decide, by show k + 2 + 0 ≤ 600128; omega, by show n + 12 + 0 ≤ 7301098; omega, rfl, fun q => by cases q⟩ (Nat.le_of_ble_eq_true rfl) rfl rfl (pk_ok hk) (T_X6_mean hl h0) ?_
  refine r_fstore (lv' := [(7, .float t8), (6, .int t3), (0, .ref g.2.2.2.1), (1, .ref v1), (2, .ref v2), (3, .ref v3), (4, .ref v4), (5, .int v5)]) dL_law_1277 (by decide) rfl ?_
  refine r_aload_n dL_law_1279 rfl 4 rfl ?_
  obtain ⟨z10, hk, h⟩ := bd h
  obtain ⟨t11, S12, h0, h⟩ := bd2_s h
  refine r_invV (As := []) (st := []) dL_law_1280 lvL_94 ⟨by decide, by decide, by show k + 2 + 0 + 0 ≤ 600128; omega, by show n + 12 + 0 + 0 ≤ 7301098; omega, rfl, fun q => by cases q⟩ (Nat.le_of_ble_eq_true rfl) rfl rfl (pk_ok hk) (T_X6_thrown hl h0) ?_
  refine r_iload dL_law_1283 1 rfl ?_
  refine r_icmp_eq (tgt := 1290) dL_law_1285 (by decide) (fun c13 => ?_) (fun c13 => ?_)
  · rw [if_pos c13] at h
    refine r_iload dL_law_1290 1 rfl ?_
    refine r_if_ne (tgt := 1328) dL_law_1292 (by decide) (fun c14 => ?_) (fun c14 => ?_)
    · rw [if_neg c14] at h
      refine r_widen (k' := k + 2) (n' := n + 12) rfl (by show k + 2 + 0 + 0 ≤ k + 2; omega) (by show n + 12 + 0 + 0 ≤ n + 12; omega) ?_
      refine r_sub [2, 3, 4, 5, 6, 7] rfl ?_
      exact T_L_law_J1328 hl fu hK28 v1 v2 v3 v4 v5 S12 (k + 2) (n + 12) (by omega) (by omega) h
    · rw [if_pos c14] at h
      refine r_aload dL_law_1295 6 rfl ?_
      refine r_iconst (v := (0 : Int32)) dL_law_1297 (by decide) ?_
      obtain ⟨t15, h0, h⟩ := bd h
      refine q_daload h0 dL_law_1298 ?_
      refine r_fload dL_law_1299 0 rfl ?_
      obtain ⟨t16, h0, h⟩ := bd h
      refine q_f2d h0 dL_law_1301 ?_
      refine r_dcmp dL_law_1302 ?_
      refine r_if_eq (tgt := 1328) dL_law_1303 (by decide) (fun c17 => ?_) (fun c17 => ?_)
      · rw [if_pos c17] at h
        refine r_widen (k' := k + 2) (n' := n + 12) rfl (by show k + 2 + 0 + 0 ≤ k + 2; omega) (by show n + 12 + 0 + 0 ≤ n + 12; omega) ?_
        refine r_sub [2, 3, 4, 5, 6, 7] rfl ?_
        exact T_L_law_J1328 hl fu hK28 v1 v2 v3 v4 v5 S12 (k + 2) (n + 12) (by omega) (by omega) h
      · rw [if_neg c17] at h
        refine r_aload dL_law_1306 6 rfl ?_
        refine r_iconst (v := (0 : Int32)) dL_law_1308 (by decide) ?_
        obtain ⟨t18, h0, h⟩ := bd h
        refine q_daload h0 dL_law_1309 ?_
        refine r_aload dL_law_1310 6 rfl ?_
        refine r_iconst (v := (0 : Int32)) dL_law_1312 (by decide) ?_
        obtain ⟨t19, h0, h⟩ := bd h
        refine q_daload h0 dL_law_1313 ?_
        refine r_dcmp dL_law_1314 ?_
        refine r_if_eq (tgt := 1326) dL_law_1315 (by decide) (fun c20 => ?_) (fun c20 => ?_)
        · rw [if_pos c20] at h
          refine r_iconst (v := (0 : Int32)) dL_law_1326 (by decide) ?_
          cases h
        · rw [if_neg c20] at h
          refine r_fload dL_law_1318 0 rfl ?_
          refine r_fload dL_law_1320 0 rfl ?_
          refine r_fcmp dL_law_1322 ?_
          refine r_if_ne (tgt := 1328) dL_law_1323 (by decide) (fun c21 => ?_) (fun c21 => ?_)
          · rw [if_neg c21] at h
            refine r_widen (k' := k + 2) (n' := n + 12) rfl (by show k + 2 + 0 + 0 ≤ k + 2; omega) (by show n + 12 + 0 + 0 ≤ n + 12; omega) ?_
            refine r_sub [2, 3, 4, 5, 6, 7] rfl ?_
            exact T_L_law_J1328 hl fu hK28 v1 v2 v3 v4 v5 S12 (k + 2) (n + 12) (by omega) (by omega) h
          · rw [if_pos c21] at h
            refine r_iconst (v := (0 : Int32)) dL_law_1326 (by decide) ?_
            cases h
  · rw [if_neg c13] at h
    refine r_iconst (v := (0 : Int32)) dL_law_1288 (by decide) ?_
    cases h

def F_L_law_J1238 (g : GG) (K28 : Nat → Nat → Nat → Nat → Int32 → Mem → Option Unit) (v1 : Nat) (v2 : Nat) (v3 : Nat) (v4 : Nat) (v5 : Int32) (S : Mem) : Option Unit :=
    F_L_law_J1331 g K28 v1 v2 v3 v4 v5 S
set_option maxRecDepth 100000 in
theorem T_L_law_J1238 {g : GG} {l : Launch} (hl : l.stackTraces = false) (fu : Nat) {K28 : Nat → Nat → Nat → Nat → Int32 → Mem → Option Unit} (hK28 : ∀ (v1 : Nat) (v2 : Nat) (v3 : Nat) (v4 : Nat) (v5 : Int32) (S : Mem) (k n : Nat), k + 2 * fu ≤ 600128 → n + 12 * fu ≤ 7301098 → K28 v1 v2 v3 v4 v5 S = some () → Run g l uL_law lawQ 28 [(0, .ref g.2.2.2.1), (1, .ref v1), (2, .ref v2), (3, .ref v3), (4, .ref v4), (5, .int v5)] [] k n S) : ∀ (v1 : Nat) (v2 : Nat) (v3 : Nat) (v4 : Nat) (v5 : Int32) (S : Mem) (k n : Nat), k + 2 * fu ≤ 600128 → n + 12 * fu ≤ 7301098 → F_L_law_J1238 g K28 v1 v2 v3 v4 v5 S = some () → Run g l uL_law lawQ 1238 [(0, .ref g.2.2.2.1), (1, .ref v1), (2, .ref v2), (3, .ref v3), (4, .ref v4), (5, .int v5)] [] k n S := by
  intro v1 v2 v3 v4 v5 S k n q1 q2 h
  unfold F_L_law_J1238 at h
  refine r_goto (tgt := 1331) dL_law_1238 (by decide) ?_
  exact T_L_law_J1331 hl fu hK28 v1 v2 v3 v4 v5 S k n (by omega) (by omega) h

def F_L_law_J1173 (g : GG) (K28 : Nat → Nat → Nat → Nat → Int32 → Mem → Option Unit) (v1 : Nat) (v2 : Nat) (v3 : Nat) (v4 : Nat) (v5 : Int32) (S : Mem) : Option Unit :=
    (ptX g (v5 + (1 : Int32))).bind fun t22 =>
    (ptX g (v5 + (2 : Int32))).bind fun t23 =>
    bd2 (F_L_found v1 t22 t23 v3 S) fun t24 S25 =>
    (ptX g (v5 + (1 : Int32))).bind fun t26 =>
    (ptX g (v5 + (2 : Int32))).bind fun t27 =>
    (pk 6 S25 v2).bind fun _ =>
    bd2 (F_X6_found v2 t26 t27 S25) fun t29 S30 =>
    (pk 6 S30 v2).bind fun _ =>
    bd2 (F_X6_thrown v2 S30) fun t32 S33 =>
    if t32 = t24 then
      if t24 = 0 then
        (paJ S33 v3 (0 : Int32)).bind fun t36 =>
        if (lg_cmp t36 t29.toInt64) = 0 then
          F_L_law_J1238 g K28 v1 v2 v3 v4 v5 S33
        else
          none
      else
        F_L_law_J1238 g K28 v1 v2 v3 v4 v5 S33
    else
      none
set_option maxRecDepth 100000 in
theorem T_L_law_J1173 {g : GG} {l : Launch} (hl : l.stackTraces = false) (fu : Nat) {K28 : Nat → Nat → Nat → Nat → Int32 → Mem → Option Unit} (hK28 : ∀ (v1 : Nat) (v2 : Nat) (v3 : Nat) (v4 : Nat) (v5 : Int32) (S : Mem) (k n : Nat), k + 2 * fu ≤ 600128 → n + 12 * fu ≤ 7301098 → K28 v1 v2 v3 v4 v5 S = some () → Run g l uL_law lawQ 28 [(0, .ref g.2.2.2.1), (1, .ref v1), (2, .ref v2), (3, .ref v3), (4, .ref v4), (5, .int v5)] [] k n S) : ∀ (v1 : Nat) (v2 : Nat) (v3 : Nat) (v4 : Nat) (v5 : Int32) (S : Mem) (k n : Nat), k + 2 + 2 * fu ≤ 600128 → n + 12 + 12 * fu ≤ 7301098 → F_L_law_J1173 g K28 v1 v2 v3 v4 v5 S = some () → Run g l uL_law lawQ 1173 [(0, .ref g.2.2.2.1), (1, .ref v1), (2, .ref v2), (3, .ref v3), (4, .ref v4), (5, .int v5)] [] k n S := by
  intro v1 v2 v3 v4 v5 S k n q1 q2 h
  unfold F_L_law_J1173 at h
  refine r_aload_n dL_law_1173 rfl 1 rfl ?_
  refine r_aload_n dL_law_1174 rfl 0 rfl ?_
  refine r_iload dL_law_1175 5 rfl ?_
  refine r_iconst (v := (1 : Int32)) dL_law_1177 (by decide) ?_
  refine r_iadd dL_law_1178 ?_
  obtain ⟨t22, h0, h⟩ := bd h
  refine q_script h0 dL_law_1179 ?_
  refine r_aload_n dL_law_1180 rfl 0 rfl ?_
  refine r_iload dL_law_1181 5 rfl ?_
  refine r_iconst (v := (2 : Int32)) dL_law_1183 (by decide) ?_
  refine r_iadd dL_law_1184 ?_
  obtain ⟨t23, h0, h⟩ := bd h
  refine q_script h0 dL_law_1185 ?_
  refine r_aload_n dL_law_1186 rfl 3 rfl ?_
  obtain ⟨t24, S25, h0, h⟩ := bd2_s h
  refine r_invT (As := [.ref v1, .int t22, .int t23, .ref v3]) (st := []) dL_law_1187 ltL_155 ⟨by decide, by decide, by show k + 1 ≤ 600128; omega, by show n + 6 ≤ 7301098; omega, rfl, fun q => by cases q⟩ (Nat.le_of_ble_eq_true rfl) rfl rfl (T_L_found hl h0) ?_
  refine r_istore (lv' := [(6, .int t24), (0, .ref g.2.2.2.1), (1, .ref v1), (2, .ref v2), (3, .ref v3), (4, .ref v4), (5, .int v5)]) dL_law_1190 (by decide) rfl ?_
  refine r_aload_n dL_law_1192 rfl 3 rfl ?_
  refine r_aload_n dL_law_1193 rfl 1 rfl ?_
  refine r_iload dL_law_1194 6 rfl ?_
  refine r_iconst (v := (1 : Int32)) dL_law_1196 (by decide) ?_
  refine r_iadd dL_law_1197 ?_
  obtain ⟨t26, h0, h⟩ := bd h
  refine q_script h0 dL_law_1198 ?_
  refine r_aload_n dL_law_1199 rfl 1 rfl ?_
  refine r_iload dL_law_1200 6 rfl ?_
  refine r_iconst (v := (2 : Int32)) dL_law_1202 (by decide) ?_
  refine r_iadd dL_law_1203 ?_
  obtain ⟨t27, h0, h⟩ := bd h
  refine q_script h0 dL_law_1204 ?_
  obtain ⟨z28, hk, h⟩ := bd h
  obtain ⟨t29, S30, h0, h⟩ := bd2_s h
  refine r_invV (As := [.int t26, .int t27]) (st := []) dL_law_1205 lvL_157 ⟨by decide, by decide, by show k + 1 + 0 ≤ 600128; omega, by show n + 6 + 0 ≤ 7301098; omega, rfl, fun q => by cases q⟩ (Nat.le_of_ble_eq_true rfl) rfl rfl (pk_ok hk) (T_X6_found hl h0) ?_
  refine r_istore (lv' := [(7, .int t29), (6, .int t24), (0, .ref g.2.2.2.1), (1, .ref v1), (2, .ref v2), (3, .ref v3), (4, .ref v4), (5, .int v5)]) dL_law_1208 (by decide) rfl ?_
  refine r_aload_n dL_law_1210 rfl 4 rfl ?_
  obtain ⟨z31, hk, h⟩ := bd h
  obtain ⟨t32, S33, h0, h⟩ := bd2_s h
  refine r_invV (As := []) (st := []) dL_law_1211 lvL_94 ⟨by decide, by decide, by show k + 1 + 0 + 0 ≤ 600128; omega, by show n + 6 + 0 + 0 ≤ 7301098; omega, rfl, fun q => by cases q⟩ (Nat.le_of_ble_eq_true rfl) rfl rfl (pk_ok hk) (T_X6_thrown hl h0) ?_
  refine r_iload dL_law_1214 1 rfl ?_
  refine r_icmp_eq (tgt := 1221) dL_law_1216 (by decide) (fun c34 => ?_) (fun c34 => ?_)
  · rw [if_pos c34] at h
    refine r_iload dL_law_1221 1 rfl ?_
    refine r_if_ne (tgt := 1238) dL_law_1223 (by decide) (fun c35 => ?_) (fun c35 => ?_)
    · rw [if_neg c35] at h
      refine r_widen (k' := k + 2) (n' := n + 12) rfl (by show k + 1 + 0 + 0 ≤ k + 2; omega) (by show n + 6 + 0 + 0 ≤ n + 12; omega) ?_
      refine r_sub [2, 3, 4, 5, 6, 7] rfl ?_
      exact T_L_law_J1238 hl fu hK28 v1 v2 v3 v4 v5 S33 (k + 2) (n + 12) (by omega) (by omega) h
    · rw [if_pos c35] at h
      refine r_aload_n dL_law_1226 rfl 5 rfl ?_
      refine r_iconst (v := (0 : Int32)) dL_law_1227 (by decide) ?_
      obtain ⟨t36, h0, h⟩ := bd h
      refine q_laload h0 dL_law_1228 ?_
      refine r_iload dL_law_1229 0 rfl ?_
      refine r_i2l dL_law_1231 ?_
      refine r_lcmp dL_law_1232 ?_
      refine r_if_eq (tgt := 1238) dL_law_1233 (by decide) (fun c37 => ?_) (fun c37 => ?_)
      · rw [if_pos c37] at h
        refine r_widen (k' := k + 2) (n' := n + 12) rfl (by show k + 1 + 0 + 0 ≤ k + 2; omega) (by show n + 6 + 0 + 0 ≤ n + 12; omega) ?_
        refine r_sub [2, 3, 4, 5, 6, 7] rfl ?_
        exact T_L_law_J1238 hl fu hK28 v1 v2 v3 v4 v5 S33 (k + 2) (n + 12) (by omega) (by omega) h
      · rw [if_neg c37] at h
        refine r_iconst (v := (0 : Int32)) dL_law_1236 (by decide) ?_
        cases h
  · rw [if_neg c34] at h
    refine r_iconst (v := (0 : Int32)) dL_law_1219 (by decide) ?_
    cases h

def F_L_law_J1170 (g : GG) (K28 : Nat → Nat → Nat → Nat → Int32 → Mem → Option Unit) (v1 : Nat) (v2 : Nat) (v3 : Nat) (v4 : Nat) (v5 : Int32) (S : Mem) : Option Unit :=
    F_L_law_J1331 g K28 v1 v2 v3 v4 v5 S
set_option maxRecDepth 100000 in
theorem T_L_law_J1170 {g : GG} {l : Launch} (hl : l.stackTraces = false) (fu : Nat) {K28 : Nat → Nat → Nat → Nat → Int32 → Mem → Option Unit} (hK28 : ∀ (v1 : Nat) (v2 : Nat) (v3 : Nat) (v4 : Nat) (v5 : Int32) (S : Mem) (k n : Nat), k + 2 * fu ≤ 600128 → n + 12 * fu ≤ 7301098 → K28 v1 v2 v3 v4 v5 S = some () → Run g l uL_law lawQ 28 [(0, .ref g.2.2.2.1), (1, .ref v1), (2, .ref v2), (3, .ref v3), (4, .ref v4), (5, .int v5)] [] k n S) : ∀ (v1 : Nat) (v2 : Nat) (v3 : Nat) (v4 : Nat) (v5 : Int32) (S : Mem) (k n : Nat), k + 2 * fu ≤ 600128 → n + 12 * fu ≤ 7301098 → F_L_law_J1170 g K28 v1 v2 v3 v4 v5 S = some () → Run g l uL_law lawQ 1170 [(0, .ref g.2.2.2.1), (1, .ref v1), (2, .ref v2), (3, .ref v3), (4, .ref v4), (5, .int v5)] [] k n S := by
  intro v1 v2 v3 v4 v5 S k n q1 q2 h
  unfold F_L_law_J1170 at h
  refine r_goto (tgt := 1331) dL_law_1170 (by decide) ?_
  exact T_L_law_J1331 hl fu hK28 v1 v2 v3 v4 v5 S k n (by omega) (by omega) h

def F_L_law_J1093 (g : GG) (K28 : Nat → Nat → Nat → Nat → Int32 → Mem → Option Unit) (v1 : Nat) (v2 : Nat) (v3 : Nat) (v4 : Nat) (v5 : Int32) (S : Mem) : Option Unit :=
    (ptX g (v5 + (1 : Int32))).bind fun t38 =>
    (ptX g (v5 + (2 : Int32))).bind fun t39 =>
    (ptX g (v5 + (3 : Int32))).bind fun t40 =>
    bd2 (F_L_base v1 t38 t39 t40 v3 S) fun t41 S42 =>
    (ptX g (v5 + (1 : Int32))).bind fun t43 =>
    (ptX g (v5 + (2 : Int32))).bind fun t44 =>
    (ptX g (v5 + (3 : Int32))).bind fun t45 =>
    (pk 6 S42 v2).bind fun _ =>
    bd2 (F_X6_base v2 t43 t44 t45 S42) fun t47 S48 =>
    (pk 6 S48 v2).bind fun _ =>
    bd2 (F_X6_thrown v2 S48) fun t50 S51 =>
    if t50 = t41 then
      if t41 = 0 then
        (paJ S51 v3 (0 : Int32)).bind fun t54 =>
        if (lg_cmp t54 t47.toInt64) = 0 then
          F_L_law_J1170 g K28 v1 v2 v3 v4 v5 S51
        else
          none
      else
        F_L_law_J1170 g K28 v1 v2 v3 v4 v5 S51
    else
      none
set_option maxRecDepth 100000 in
theorem T_L_law_J1093 {g : GG} {l : Launch} (hl : l.stackTraces = false) (fu : Nat) {K28 : Nat → Nat → Nat → Nat → Int32 → Mem → Option Unit} (hK28 : ∀ (v1 : Nat) (v2 : Nat) (v3 : Nat) (v4 : Nat) (v5 : Int32) (S : Mem) (k n : Nat), k + 2 * fu ≤ 600128 → n + 12 * fu ≤ 7301098 → K28 v1 v2 v3 v4 v5 S = some () → Run g l uL_law lawQ 28 [(0, .ref g.2.2.2.1), (1, .ref v1), (2, .ref v2), (3, .ref v3), (4, .ref v4), (5, .int v5)] [] k n S) : ∀ (v1 : Nat) (v2 : Nat) (v3 : Nat) (v4 : Nat) (v5 : Int32) (S : Mem) (k n : Nat), k + 2 + 2 * fu ≤ 600128 → n + 12 + 12 * fu ≤ 7301098 → F_L_law_J1093 g K28 v1 v2 v3 v4 v5 S = some () → Run g l uL_law lawQ 1093 [(0, .ref g.2.2.2.1), (1, .ref v1), (2, .ref v2), (3, .ref v3), (4, .ref v4), (5, .int v5)] [] k n S := by
  intro v1 v2 v3 v4 v5 S k n q1 q2 h
  unfold F_L_law_J1093 at h
  refine r_aload_n dL_law_1093 rfl 1 rfl ?_
  refine r_aload_n dL_law_1094 rfl 0 rfl ?_
  refine r_iload dL_law_1095 5 rfl ?_
  refine r_iconst (v := (1 : Int32)) dL_law_1097 (by decide) ?_
  refine r_iadd dL_law_1098 ?_
  obtain ⟨t38, h0, h⟩ := bd h
  refine q_script h0 dL_law_1099 ?_
  refine r_aload_n dL_law_1100 rfl 0 rfl ?_
  refine r_iload dL_law_1101 5 rfl ?_
  refine r_iconst (v := (2 : Int32)) dL_law_1103 (by decide) ?_
  refine r_iadd dL_law_1104 ?_
  obtain ⟨t39, h0, h⟩ := bd h
  refine q_script h0 dL_law_1105 ?_
  refine r_aload_n dL_law_1106 rfl 0 rfl ?_
  refine r_iload dL_law_1107 5 rfl ?_
  refine r_iconst (v := (3 : Int32)) dL_law_1109 (by decide) ?_
  refine r_iadd dL_law_1110 ?_
  obtain ⟨t40, h0, h⟩ := bd h
  refine q_script h0 dL_law_1111 ?_
  refine r_aload_n dL_law_1112 rfl 3 rfl ?_
  obtain ⟨t41, S42, h0, h⟩ := bd2_s h
  refine r_invT (As := [.ref v1, .int t38, .int t39, .int t40, .ref v3]) (st := []) dL_law_1113 ltL_151 ⟨by decide, by decide, by show k + 2 ≤ 600128; omega, by show n + 12 ≤ 7301098; omega, rfl, fun q => by cases q⟩ (Nat.le_of_ble_eq_true rfl) rfl rfl (T_L_base hl h0) ?_
  refine r_istore (lv' := [(6, .int t41), (0, .ref g.2.2.2.1), (1, .ref v1), (2, .ref v2), (3, .ref v3), (4, .ref v4), (5, .int v5)]) dL_law_1116 (by decide) rfl ?_
  refine r_aload_n dL_law_1118 rfl 3 rfl ?_
  refine r_aload_n dL_law_1119 rfl 1 rfl ?_
  refine r_iload dL_law_1120 6 rfl ?_
  refine r_iconst (v := (1 : Int32)) dL_law_1122 (by decide) ?_
  refine r_iadd dL_law_1123 ?_
  obtain ⟨t43, h0, h⟩ := bd h
  refine q_script h0 dL_law_1124 ?_
  refine r_aload_n dL_law_1125 rfl 1 rfl ?_
  refine r_iload dL_law_1126 6 rfl ?_
  refine r_iconst (v := (2 : Int32)) dL_law_1128 (by decide) ?_
  refine r_iadd dL_law_1129 ?_
  obtain ⟨t44, h0, h⟩ := bd h
  refine q_script h0 dL_law_1130 ?_
  refine r_aload_n dL_law_1131 rfl 1 rfl ?_
  refine r_iload dL_law_1132 6 rfl ?_
  refine r_iconst (v := (3 : Int32)) dL_law_1134 (by decide) ?_
  refine r_iadd dL_law_1135 ?_
  obtain ⟨t45, h0, h⟩ := bd h
  refine q_script h0 dL_law_1136 ?_
  obtain ⟨z46, hk, h⟩ := bd h
  obtain ⟨t47, S48, h0, h⟩ := bd2_s h
  refine r_invV (As := [.int t43, .int t44, .int t45]) (st := []) dL_law_1137 lvL_154 ⟨by decide, by decide, by show k + 2 + 0 ≤ 600128; omega, by show n + 12 + 0 ≤ 7301098; omega, rfl, fun q => by cases q⟩ (Nat.le_of_ble_eq_true rfl) rfl rfl (pk_ok hk) (T_X6_base hl h0) ?_
  refine r_istore (lv' := [(7, .int t47), (6, .int t41), (0, .ref g.2.2.2.1), (1, .ref v1), (2, .ref v2), (3, .ref v3), (4, .ref v4), (5, .int v5)]) dL_law_1140 (by decide) rfl ?_
  refine r_aload_n dL_law_1142 rfl 4 rfl ?_
  obtain ⟨z49, hk, h⟩ := bd h
  obtain ⟨t50, S51, h0, h⟩ := bd2_s h
  refine r_invV (As := []) (st := []) dL_law_1143 lvL_94 ⟨by decide, by decide, by show k + 2 + 0 + 0 ≤ 600128; omega, by show n + 12 + 0 + 0 ≤ 7301098; omega, rfl, fun q => by cases q⟩ (Nat.le_of_ble_eq_true rfl) rfl rfl (pk_ok hk) (T_X6_thrown hl h0) ?_
  refine r_iload dL_law_1146 1 rfl ?_
  refine r_icmp_eq (tgt := 1153) dL_law_1148 (by decide) (fun c52 => ?_) (fun c52 => ?_)
  · rw [if_pos c52] at h
    refine r_iload dL_law_1153 1 rfl ?_
    refine r_if_ne (tgt := 1170) dL_law_1155 (by decide) (fun c53 => ?_) (fun c53 => ?_)
    · rw [if_neg c53] at h
      refine r_widen (k' := k + 2) (n' := n + 12) rfl (by show k + 2 + 0 + 0 ≤ k + 2; omega) (by show n + 12 + 0 + 0 ≤ n + 12; omega) ?_
      refine r_sub [2, 3, 4, 5, 6, 7] rfl ?_
      exact T_L_law_J1170 hl fu hK28 v1 v2 v3 v4 v5 S51 (k + 2) (n + 12) (by omega) (by omega) h
    · rw [if_pos c53] at h
      refine r_aload_n dL_law_1158 rfl 5 rfl ?_
      refine r_iconst (v := (0 : Int32)) dL_law_1159 (by decide) ?_
      obtain ⟨t54, h0, h⟩ := bd h
      refine q_laload h0 dL_law_1160 ?_
      refine r_iload dL_law_1161 0 rfl ?_
      refine r_i2l dL_law_1163 ?_
      refine r_lcmp dL_law_1164 ?_
      refine r_if_eq (tgt := 1170) dL_law_1165 (by decide) (fun c55 => ?_) (fun c55 => ?_)
      · rw [if_pos c55] at h
        refine r_widen (k' := k + 2) (n' := n + 12) rfl (by show k + 2 + 0 + 0 ≤ k + 2; omega) (by show n + 12 + 0 + 0 ≤ n + 12; omega) ?_
        refine r_sub [2, 3, 4, 5, 6, 7] rfl ?_
        exact T_L_law_J1170 hl fu hK28 v1 v2 v3 v4 v5 S51 (k + 2) (n + 12) (by omega) (by omega) h
      · rw [if_neg c55] at h
        refine r_iconst (v := (0 : Int32)) dL_law_1168 (by decide) ?_
        cases h
  · rw [if_neg c52] at h
    refine r_iconst (v := (0 : Int32)) dL_law_1151 (by decide) ?_
    cases h

def F_L_law_J1090 (g : GG) (K28 : Nat → Nat → Nat → Nat → Int32 → Mem → Option Unit) (v1 : Nat) (v2 : Nat) (v3 : Nat) (v4 : Nat) (v5 : Int32) (S : Mem) : Option Unit :=
    F_L_law_J1331 g K28 v1 v2 v3 v4 v5 S
set_option maxRecDepth 100000 in
theorem T_L_law_J1090 {g : GG} {l : Launch} (hl : l.stackTraces = false) (fu : Nat) {K28 : Nat → Nat → Nat → Nat → Int32 → Mem → Option Unit} (hK28 : ∀ (v1 : Nat) (v2 : Nat) (v3 : Nat) (v4 : Nat) (v5 : Int32) (S : Mem) (k n : Nat), k + 2 * fu ≤ 600128 → n + 12 * fu ≤ 7301098 → K28 v1 v2 v3 v4 v5 S = some () → Run g l uL_law lawQ 28 [(0, .ref g.2.2.2.1), (1, .ref v1), (2, .ref v2), (3, .ref v3), (4, .ref v4), (5, .int v5)] [] k n S) : ∀ (v1 : Nat) (v2 : Nat) (v3 : Nat) (v4 : Nat) (v5 : Int32) (S : Mem) (k n : Nat), k + 2 * fu ≤ 600128 → n + 12 * fu ≤ 7301098 → F_L_law_J1090 g K28 v1 v2 v3 v4 v5 S = some () → Run g l uL_law lawQ 1090 [(0, .ref g.2.2.2.1), (1, .ref v1), (2, .ref v2), (3, .ref v3), (4, .ref v4), (5, .int v5)] [] k n S := by
  intro v1 v2 v3 v4 v5 S k n q1 q2 h
  unfold F_L_law_J1090 at h
  refine r_goto (tgt := 1331) dL_law_1090 (by decide) ?_
  exact T_L_law_J1331 hl fu hK28 v1 v2 v3 v4 v5 S k n (by omega) (by omega) h

def F_L_law_J1025 (g : GG) (K28 : Nat → Nat → Nat → Nat → Int32 → Mem → Option Unit) (v1 : Nat) (v2 : Nat) (v3 : Nat) (v4 : Nat) (v5 : Int32) (S : Mem) : Option Unit :=
    (ptX g (v5 + (1 : Int32))).bind fun t56 =>
    (ptX g (v5 + (2 : Int32))).bind fun t57 =>
    bd2 (F_L_about v1 t56 t57 v3 S) fun t58 S59 =>
    (ptX g (v5 + (1 : Int32))).bind fun t60 =>
    (ptX g (v5 + (2 : Int32))).bind fun t61 =>
    (pk 6 S59 v2).bind fun _ =>
    bd2 (F_X6_about v2 t60 t61 S59) fun t63 S64 =>
    (pk 6 S64 v2).bind fun _ =>
    bd2 (F_X6_thrown v2 S64) fun t66 S67 =>
    if t66 = t58 then
      if t58 = 0 then
        (paJ S67 v3 (0 : Int32)).bind fun t70 =>
        if (lg_cmp t70 t63.toInt64) = 0 then
          F_L_law_J1090 g K28 v1 v2 v3 v4 v5 S67
        else
          none
      else
        F_L_law_J1090 g K28 v1 v2 v3 v4 v5 S67
    else
      none
set_option maxRecDepth 100000 in
theorem T_L_law_J1025 {g : GG} {l : Launch} (hl : l.stackTraces = false) (fu : Nat) {K28 : Nat → Nat → Nat → Nat → Int32 → Mem → Option Unit} (hK28 : ∀ (v1 : Nat) (v2 : Nat) (v3 : Nat) (v4 : Nat) (v5 : Int32) (S : Mem) (k n : Nat), k + 2 * fu ≤ 600128 → n + 12 * fu ≤ 7301098 → K28 v1 v2 v3 v4 v5 S = some () → Run g l uL_law lawQ 28 [(0, .ref g.2.2.2.1), (1, .ref v1), (2, .ref v2), (3, .ref v3), (4, .ref v4), (5, .int v5)] [] k n S) : ∀ (v1 : Nat) (v2 : Nat) (v3 : Nat) (v4 : Nat) (v5 : Int32) (S : Mem) (k n : Nat), k + 2 + 2 * fu ≤ 600128 → n + 12 + 12 * fu ≤ 7301098 → F_L_law_J1025 g K28 v1 v2 v3 v4 v5 S = some () → Run g l uL_law lawQ 1025 [(0, .ref g.2.2.2.1), (1, .ref v1), (2, .ref v2), (3, .ref v3), (4, .ref v4), (5, .int v5)] [] k n S := by
  intro v1 v2 v3 v4 v5 S k n q1 q2 h
  unfold F_L_law_J1025 at h
  refine r_aload_n dL_law_1025 rfl 1 rfl ?_
  refine r_aload_n dL_law_1026 rfl 0 rfl ?_
  refine r_iload dL_law_1027 5 rfl ?_
  refine r_iconst (v := (1 : Int32)) dL_law_1029 (by decide) ?_
  refine r_iadd dL_law_1030 ?_
  obtain ⟨t56, h0, h⟩ := bd h
  refine q_script h0 dL_law_1031 ?_
  refine r_aload_n dL_law_1032 rfl 0 rfl ?_
  refine r_iload dL_law_1033 5 rfl ?_
  refine r_iconst (v := (2 : Int32)) dL_law_1035 (by decide) ?_
  refine r_iadd dL_law_1036 ?_
  obtain ⟨t57, h0, h⟩ := bd h
  refine q_script h0 dL_law_1037 ?_
  refine r_aload_n dL_law_1038 rfl 3 rfl ?_
  obtain ⟨t58, S59, h0, h⟩ := bd2_s h
  refine r_invT (As := [.ref v1, .int t56, .int t57, .ref v3]) (st := []) dL_law_1039 ltL_148 ⟨by decide, by decide, by show k + 2 ≤ 600128; omega, by show n + 12 ≤ 7301098; omega, rfl, fun q => by cases q⟩ (Nat.le_of_ble_eq_true rfl) rfl rfl (T_L_about hl h0) ?_
  refine r_istore (lv' := [(6, .int t58), (0, .ref g.2.2.2.1), (1, .ref v1), (2, .ref v2), (3, .ref v3), (4, .ref v4), (5, .int v5)]) dL_law_1042 (by decide) rfl ?_
  refine r_aload_n dL_law_1044 rfl 3 rfl ?_
  refine r_aload_n dL_law_1045 rfl 1 rfl ?_
  refine r_iload dL_law_1046 6 rfl ?_
  refine r_iconst (v := (1 : Int32)) dL_law_1048 (by decide) ?_
  refine r_iadd dL_law_1049 ?_
  obtain ⟨t60, h0, h⟩ := bd h
  refine q_script h0 dL_law_1050 ?_
  refine r_aload_n dL_law_1051 rfl 1 rfl ?_
  refine r_iload dL_law_1052 6 rfl ?_
  refine r_iconst (v := (2 : Int32)) dL_law_1054 (by decide) ?_
  refine r_iadd dL_law_1055 ?_
  obtain ⟨t61, h0, h⟩ := bd h
  refine q_script h0 dL_law_1056 ?_
  obtain ⟨z62, hk, h⟩ := bd h
  obtain ⟨t63, S64, h0, h⟩ := bd2_s h
  refine r_invV (As := [.int t60, .int t61]) (st := []) dL_law_1057 lvL_150 ⟨by decide, by decide, by show k + 2 + 0 ≤ 600128; omega, by show n + 12 + 0 ≤ 7301098; omega, rfl, fun q => by cases q⟩ (Nat.le_of_ble_eq_true rfl) rfl rfl (pk_ok hk) (T_X6_about hl h0) ?_
  refine r_istore (lv' := [(7, .int t63), (6, .int t58), (0, .ref g.2.2.2.1), (1, .ref v1), (2, .ref v2), (3, .ref v3), (4, .ref v4), (5, .int v5)]) dL_law_1060 (by decide) rfl ?_
  refine r_aload_n dL_law_1062 rfl 4 rfl ?_
  obtain ⟨z65, hk, h⟩ := bd h
  obtain ⟨t66, S67, h0, h⟩ := bd2_s h
  refine r_invV (As := []) (st := []) dL_law_1063 lvL_94 ⟨by decide, by decide, by show k + 2 + 0 + 0 ≤ 600128; omega, by show n + 12 + 0 + 0 ≤ 7301098; omega, rfl, fun q => by cases q⟩ (Nat.le_of_ble_eq_true rfl) rfl rfl (pk_ok hk) (T_X6_thrown hl h0) ?_
  refine r_iload dL_law_1066 1 rfl ?_
  refine r_icmp_eq (tgt := 1073) dL_law_1068 (by decide) (fun c68 => ?_) (fun c68 => ?_)
  · rw [if_pos c68] at h
    refine r_iload dL_law_1073 1 rfl ?_
    refine r_if_ne (tgt := 1090) dL_law_1075 (by decide) (fun c69 => ?_) (fun c69 => ?_)
    · rw [if_neg c69] at h
      refine r_widen (k' := k + 2) (n' := n + 12) rfl (by show k + 2 + 0 + 0 ≤ k + 2; omega) (by show n + 12 + 0 + 0 ≤ n + 12; omega) ?_
      refine r_sub [2, 3, 4, 5, 6, 7] rfl ?_
      exact T_L_law_J1090 hl fu hK28 v1 v2 v3 v4 v5 S67 (k + 2) (n + 12) (by omega) (by omega) h
    · rw [if_pos c69] at h
      refine r_aload_n dL_law_1078 rfl 5 rfl ?_
      refine r_iconst (v := (0 : Int32)) dL_law_1079 (by decide) ?_
      obtain ⟨t70, h0, h⟩ := bd h
      refine q_laload h0 dL_law_1080 ?_
      refine r_iload dL_law_1081 0 rfl ?_
      refine r_i2l dL_law_1083 ?_
      refine r_lcmp dL_law_1084 ?_
      refine r_if_eq (tgt := 1090) dL_law_1085 (by decide) (fun c71 => ?_) (fun c71 => ?_)
      · rw [if_pos c71] at h
        refine r_widen (k' := k + 2) (n' := n + 12) rfl (by show k + 2 + 0 + 0 ≤ k + 2; omega) (by show n + 12 + 0 + 0 ≤ n + 12; omega) ?_
        refine r_sub [2, 3, 4, 5, 6, 7] rfl ?_
        exact T_L_law_J1090 hl fu hK28 v1 v2 v3 v4 v5 S67 (k + 2) (n + 12) (by omega) (by omega) h
      · rw [if_neg c71] at h
        refine r_iconst (v := (0 : Int32)) dL_law_1088 (by decide) ?_
        cases h
  · rw [if_neg c68] at h
    refine r_iconst (v := (0 : Int32)) dL_law_1071 (by decide) ?_
    cases h

def F_L_law_J1012 (g : GG) (K28 : Nat → Nat → Nat → Nat → Int32 → Mem → Option Unit) (v1 : Nat) (v2 : Nat) (v3 : Nat) (v4 : Nat) (v5 : Int32) (S : Mem) : Option Unit :=
    (pk 5 S v1).bind fun _ =>
    bd2 (F_X5_records v1 S) fun t73 S74 =>
    (pk 6 S74 v2).bind fun _ =>
    bd2 (F_X6_records v2 S74) fun t76 S77 =>
    if t73 = t76 then
      F_L_law_J1331 g K28 v1 v2 v3 v4 v5 S77
    else
      none
set_option maxRecDepth 100000 in
theorem T_L_law_J1012 {g : GG} {l : Launch} (hl : l.stackTraces = false) (fu : Nat) {K28 : Nat → Nat → Nat → Nat → Int32 → Mem → Option Unit} (hK28 : ∀ (v1 : Nat) (v2 : Nat) (v3 : Nat) (v4 : Nat) (v5 : Int32) (S : Mem) (k n : Nat), k + 2 * fu ≤ 600128 → n + 12 * fu ≤ 7301098 → K28 v1 v2 v3 v4 v5 S = some () → Run g l uL_law lawQ 28 [(0, .ref g.2.2.2.1), (1, .ref v1), (2, .ref v2), (3, .ref v3), (4, .ref v4), (5, .int v5)] [] k n S) : ∀ (v1 : Nat) (v2 : Nat) (v3 : Nat) (v4 : Nat) (v5 : Int32) (S : Mem) (k n : Nat), k + 2 + 2 * fu ≤ 600128 → n + 12 + 12 * fu ≤ 7301098 → F_L_law_J1012 g K28 v1 v2 v3 v4 v5 S = some () → Run g l uL_law lawQ 1012 [(0, .ref g.2.2.2.1), (1, .ref v1), (2, .ref v2), (3, .ref v3), (4, .ref v4), (5, .int v5)] [] k n S := by
  intro v1 v2 v3 v4 v5 S k n q1 q2 h
  unfold F_L_law_J1012 at h
  refine r_aload_n dL_law_1012 rfl 1 rfl ?_
  obtain ⟨z72, hk, h⟩ := bd h
  obtain ⟨t73, S74, h0, h⟩ := bd2_s h
  refine r_invV (As := []) (st := []) dL_law_1013 lvL_144 ⟨by decide, by decide, by show k + 0 ≤ 600128; omega, by show n + 0 ≤ 7301098; omega, rfl, fun q => by cases q⟩ (Nat.le_of_ble_eq_true rfl) rfl rfl (pk_ok hk) (T_X5_records hl h0) ?_
  refine r_aload_n dL_law_1016 rfl 2 rfl ?_
  obtain ⟨z75, hk, h⟩ := bd h
  obtain ⟨t76, S77, h0, h⟩ := bd2_s h
  refine r_invV (As := []) (st := [.int t73]) dL_law_1017 lvL_147 ⟨by decide, by decide, by show k + 0 + 0 ≤ 600128; omega, by show n + 0 + 0 ≤ 7301098; omega, rfl, fun q => by cases q⟩ (Nat.le_of_ble_eq_true rfl) rfl rfl (pk_ok hk) (T_X6_records hl h0) ?_
  refine r_icmp_eq (tgt := 1331) dL_law_1020 (by decide) (fun c78 => ?_) (fun c78 => ?_)
  · rw [if_pos c78] at h
    refine r_widen (k' := k + 2) (n' := n + 12) rfl (by show k + 0 + 0 ≤ k + 2; omega) (by show n + 0 + 0 ≤ n + 12; omega) ?_
    exact T_L_law_J1331 hl fu hK28 v1 v2 v3 v4 v5 S77 (k + 2) (n + 12) (by omega) (by omega) h
  · rw [if_neg c78] at h
    refine r_iconst (v := (0 : Int32)) dL_law_1023 (by decide) ?_
    cases h

def F_L_law_J1009 (g : GG) (K28 : Nat → Nat → Nat → Nat → Int32 → Mem → Option Unit) (v1 : Nat) (v2 : Nat) (v3 : Nat) (v4 : Nat) (v5 : Int32) (S : Mem) : Option Unit :=
    F_L_law_J1331 g K28 v1 v2 v3 v4 v5 S
set_option maxRecDepth 100000 in
theorem T_L_law_J1009 {g : GG} {l : Launch} (hl : l.stackTraces = false) (fu : Nat) {K28 : Nat → Nat → Nat → Nat → Int32 → Mem → Option Unit} (hK28 : ∀ (v1 : Nat) (v2 : Nat) (v3 : Nat) (v4 : Nat) (v5 : Int32) (S : Mem) (k n : Nat), k + 2 * fu ≤ 600128 → n + 12 * fu ≤ 7301098 → K28 v1 v2 v3 v4 v5 S = some () → Run g l uL_law lawQ 28 [(0, .ref g.2.2.2.1), (1, .ref v1), (2, .ref v2), (3, .ref v3), (4, .ref v4), (5, .int v5)] [] k n S) : ∀ (v1 : Nat) (v2 : Nat) (v3 : Nat) (v4 : Nat) (v5 : Int32) (S : Mem) (k n : Nat), k + 2 * fu ≤ 600128 → n + 12 * fu ≤ 7301098 → F_L_law_J1009 g K28 v1 v2 v3 v4 v5 S = some () → Run g l uL_law lawQ 1009 [(0, .ref g.2.2.2.1), (1, .ref v1), (2, .ref v2), (3, .ref v3), (4, .ref v4), (5, .int v5)] [] k n S := by
  intro v1 v2 v3 v4 v5 S k n q1 q2 h
  unfold F_L_law_J1009 at h
  refine r_goto (tgt := 1331) dL_law_1009 (by decide) ?_
  exact T_L_law_J1331 hl fu hK28 v1 v2 v3 v4 v5 S k n (by omega) (by omega) h

def F_L_law_J968 (g : GG) (K28 : Nat → Nat → Nat → Nat → Int32 → Mem → Option Unit) (v1 : Nat) (v2 : Nat) (v3 : Nat) (v4 : Nat) (v5 : Int32) (S : Mem) : Option Unit :=
    bd2 (F_L_read v1 v3 S) fun t79 S80 =>
    (pk 6 S80 v2).bind fun _ =>
    bd2 (F_X6_read v2 S80) fun t82 S83 =>
    (pk 6 S83 v2).bind fun _ =>
    bd2 (F_X6_thrown v2 S83) fun t85 S86 =>
    if t85 = t79 then
      if t79 = 0 then
        (paJ S86 v3 (0 : Int32)).bind fun t89 =>
        if (lg_cmp t89 t82.toInt64) = 0 then
          F_L_law_J1009 g K28 v1 v2 v3 v4 v5 S86
        else
          none
      else
        F_L_law_J1009 g K28 v1 v2 v3 v4 v5 S86
    else
      none
set_option maxRecDepth 100000 in
theorem T_L_law_J968 {g : GG} {l : Launch} (hl : l.stackTraces = false) (fu : Nat) {K28 : Nat → Nat → Nat → Nat → Int32 → Mem → Option Unit} (hK28 : ∀ (v1 : Nat) (v2 : Nat) (v3 : Nat) (v4 : Nat) (v5 : Int32) (S : Mem) (k n : Nat), k + 2 * fu ≤ 600128 → n + 12 * fu ≤ 7301098 → K28 v1 v2 v3 v4 v5 S = some () → Run g l uL_law lawQ 28 [(0, .ref g.2.2.2.1), (1, .ref v1), (2, .ref v2), (3, .ref v3), (4, .ref v4), (5, .int v5)] [] k n S) : ∀ (v1 : Nat) (v2 : Nat) (v3 : Nat) (v4 : Nat) (v5 : Int32) (S : Mem) (k n : Nat), k + 2 + 2 * fu ≤ 600128 → n + 12 + 12 * fu ≤ 7301098 → F_L_law_J968 g K28 v1 v2 v3 v4 v5 S = some () → Run g l uL_law lawQ 968 [(0, .ref g.2.2.2.1), (1, .ref v1), (2, .ref v2), (3, .ref v3), (4, .ref v4), (5, .int v5)] [] k n S := by
  intro v1 v2 v3 v4 v5 S k n q1 q2 h
  unfold F_L_law_J968 at h
  refine r_aload_n dL_law_968 rfl 1 rfl ?_
  refine r_aload_n dL_law_969 rfl 3 rfl ?_
  obtain ⟨t79, S80, h0, h⟩ := bd2_s h
  refine r_invT (As := [.ref v1, .ref v3]) (st := []) dL_law_970 ltL_141 ⟨by decide, by decide, by show k + 1 ≤ 600128; omega, by show n + 6 ≤ 7301098; omega, rfl, fun q => by cases q⟩ (Nat.le_of_ble_eq_true rfl) rfl rfl (T_L_read hl h0) ?_
  refine r_istore (lv' := [(6, .int t79), (0, .ref g.2.2.2.1), (1, .ref v1), (2, .ref v2), (3, .ref v3), (4, .ref v4), (5, .int v5)]) dL_law_973 (by decide) rfl ?_
  refine r_aload_n dL_law_975 rfl 3 rfl ?_
  obtain ⟨z81, hk, h⟩ := bd h
  obtain ⟨t82, S83, h0, h⟩ := bd2_s h
  refine r_invV (As := []) (st := []) dL_law_976 lvL_143 ⟨by decide, by decide, by show k + 1 + 0 ≤ 600128; omega, by show n + 6 + 0 ≤ 7301098; omega, rfl, fun q => by cases q⟩ (Nat.le_of_ble_eq_true rfl) rfl rfl (pk_ok hk) (T_X6_read hl h0) ?_
  refine r_istore (lv' := [(7, .int t82), (6, .int t79), (0, .ref g.2.2.2.1), (1, .ref v1), (2, .ref v2), (3, .ref v3), (4, .ref v4), (5, .int v5)]) dL_law_979 (by decide) rfl ?_
  refine r_aload_n dL_law_981 rfl 4 rfl ?_
  obtain ⟨z84, hk, h⟩ := bd h
  obtain ⟨t85, S86, h0, h⟩ := bd2_s h
  refine r_invV (As := []) (st := []) dL_law_982 lvL_94 ⟨by decide, by decide, by show k + 1 + 0 + 0 ≤ 600128; omega, by show n + 6 + 0 + 0 ≤ 7301098; omega, rfl, fun q => by cases q⟩ (Nat.le_of_ble_eq_true rfl) rfl rfl (pk_ok hk) (T_X6_thrown hl h0) ?_
  refine r_iload dL_law_985 1 rfl ?_
  refine r_icmp_eq (tgt := 992) dL_law_987 (by decide) (fun c87 => ?_) (fun c87 => ?_)
  · rw [if_pos c87] at h
    refine r_iload dL_law_992 1 rfl ?_
    refine r_if_ne (tgt := 1009) dL_law_994 (by decide) (fun c88 => ?_) (fun c88 => ?_)
    · rw [if_neg c88] at h
      refine r_widen (k' := k + 2) (n' := n + 12) rfl (by show k + 1 + 0 + 0 ≤ k + 2; omega) (by show n + 6 + 0 + 0 ≤ n + 12; omega) ?_
      refine r_sub [2, 3, 4, 5, 6, 7] rfl ?_
      exact T_L_law_J1009 hl fu hK28 v1 v2 v3 v4 v5 S86 (k + 2) (n + 12) (by omega) (by omega) h
    · rw [if_pos c88] at h
      refine r_aload_n dL_law_997 rfl 5 rfl ?_
      refine r_iconst (v := (0 : Int32)) dL_law_998 (by decide) ?_
      obtain ⟨t89, h0, h⟩ := bd h
      refine q_laload h0 dL_law_999 ?_
      refine r_iload dL_law_1000 0 rfl ?_
      refine r_i2l dL_law_1002 ?_
      refine r_lcmp dL_law_1003 ?_
      refine r_if_eq (tgt := 1009) dL_law_1004 (by decide) (fun c90 => ?_) (fun c90 => ?_)
      · rw [if_pos c90] at h
        refine r_widen (k' := k + 2) (n' := n + 12) rfl (by show k + 1 + 0 + 0 ≤ k + 2; omega) (by show n + 6 + 0 + 0 ≤ n + 12; omega) ?_
        refine r_sub [2, 3, 4, 5, 6, 7] rfl ?_
        exact T_L_law_J1009 hl fu hK28 v1 v2 v3 v4 v5 S86 (k + 2) (n + 12) (by omega) (by omega) h
      · rw [if_neg c90] at h
        refine r_iconst (v := (0 : Int32)) dL_law_1007 (by decide) ?_
        cases h
  · rw [if_neg c87] at h
    refine r_iconst (v := (0 : Int32)) dL_law_990 (by decide) ?_
    cases h

def F_L_law_J888 (g : GG) (K28 : Nat → Nat → Nat → Nat → Int32 → Mem → Option Unit) (v1 : Nat) (v2 : Nat) (v3 : Nat) (v4 : Nat) (v5 : Int32) (S : Mem) : Option Unit :=
    (ptX g (v5 + (1 : Int32))).bind fun t91 =>
    (ptX g (v5 + (2 : Int32))).bind fun t92 =>
    (ptX g (v5 + (3 : Int32))).bind fun t93 =>
    bd2 (F_L_type v1 ((t91.toInt64 <<< ((32 : Int32).toInt64 &&& 63)) ||| (t92.toInt64 &&& (4294967295 : Int64))) t93 S) fun t94 S95 =>
    (ptX g (v5 + (1 : Int32))).bind fun t96 =>
    (ptX g (v5 + (2 : Int32))).bind fun t97 =>
    (ptX g (v5 + (3 : Int32))).bind fun t98 =>
    (pk 6 S95 v2).bind fun _ =>
    (F_X6_type v2 ((t96.toInt64 <<< ((32 : Int32).toInt64 &&& 63)) ||| (t97.toInt64 &&& (4294967295 : Int64))) t98 S95).bind fun S101 =>
    (pk 6 S101 v2).bind fun _ =>
    bd2 (F_X6_thrown v2 S101) fun t103 S104 =>
    if t103 = t94 then
      F_L_law_J1331 g K28 v1 v2 v3 v4 v5 S104
    else
      none
set_option maxRecDepth 100000 in
theorem T_L_law_J888 {g : GG} {l : Launch} (hl : l.stackTraces = false) (fu : Nat) {K28 : Nat → Nat → Nat → Nat → Int32 → Mem → Option Unit} (hK28 : ∀ (v1 : Nat) (v2 : Nat) (v3 : Nat) (v4 : Nat) (v5 : Int32) (S : Mem) (k n : Nat), k + 2 * fu ≤ 600128 → n + 12 * fu ≤ 7301098 → K28 v1 v2 v3 v4 v5 S = some () → Run g l uL_law lawQ 28 [(0, .ref g.2.2.2.1), (1, .ref v1), (2, .ref v2), (3, .ref v3), (4, .ref v4), (5, .int v5)] [] k n S) : ∀ (v1 : Nat) (v2 : Nat) (v3 : Nat) (v4 : Nat) (v5 : Int32) (S : Mem) (k n : Nat), k + 2 + 2 * fu ≤ 600128 → n + 12 + 12 * fu ≤ 7301098 → F_L_law_J888 g K28 v1 v2 v3 v4 v5 S = some () → Run g l uL_law lawQ 888 [(0, .ref g.2.2.2.1), (1, .ref v1), (2, .ref v2), (3, .ref v3), (4, .ref v4), (5, .int v5)] [] k n S := by
  intro v1 v2 v3 v4 v5 S k n q1 q2 h
  unfold F_L_law_J888 at h
  refine r_aload_n dL_law_888 rfl 1 rfl ?_
  refine r_aload_n dL_law_889 rfl 0 rfl ?_
  refine r_iload dL_law_890 5 rfl ?_
  refine r_iconst (v := (1 : Int32)) dL_law_892 (by decide) ?_
  refine r_iadd dL_law_893 ?_
  obtain ⟨t91, h0, h⟩ := bd h
  refine q_script h0 dL_law_894 ?_
  refine r_i2l dL_law_895 ?_
  refine r_bipush (v := (32 : Int32)) dL_law_896 (by decide) ?_
  refine r_lshl dL_law_898 ?_
  refine r_aload_n dL_law_899 rfl 0 rfl ?_
  refine r_iload dL_law_900 5 rfl ?_
  refine r_iconst (v := (2 : Int32)) dL_law_902 (by decide) ?_
  refine r_iadd dL_law_903 ?_
  obtain ⟨t92, h0, h⟩ := bd h
  refine q_script h0 dL_law_904 ?_
  refine r_i2l dL_law_905 ?_
  refine r_ldc2 dL_law_906 wlL_86 ?_
  refine r_land dL_law_909 ?_
  refine r_lor dL_law_910 ?_
  refine r_aload_n dL_law_911 rfl 0 rfl ?_
  refine r_iload dL_law_912 5 rfl ?_
  refine r_iconst (v := (3 : Int32)) dL_law_914 (by decide) ?_
  refine r_iadd dL_law_915 ?_
  obtain ⟨t93, h0, h⟩ := bd h
  refine q_script h0 dL_law_916 ?_
  obtain ⟨t94, S95, h0, h⟩ := bd2_s h
  refine r_invT (As := [.ref v1, .long ((t91.toInt64 <<< ((32 : Int32).toInt64 &&& 63)) ||| (t92.toInt64 &&& (4294967295 : Int64))), .int t93]) (st := []) dL_law_917 ltL_137 ⟨by decide, by decide, by show k + 1 ≤ 600128; omega, by show n + 6 ≤ 7301098; omega, rfl, fun q => by cases q⟩ (Nat.le_of_ble_eq_true rfl) rfl rfl (T_L_type hl h0) ?_
  refine r_istore (lv' := [(6, .int t94), (0, .ref g.2.2.2.1), (1, .ref v1), (2, .ref v2), (3, .ref v3), (4, .ref v4), (5, .int v5)]) dL_law_920 (by decide) rfl ?_
  refine r_aload_n dL_law_922 rfl 3 rfl ?_
  refine r_aload_n dL_law_923 rfl 1 rfl ?_
  refine r_iload dL_law_924 6 rfl ?_
  refine r_iconst (v := (1 : Int32)) dL_law_926 (by decide) ?_
  refine r_iadd dL_law_927 ?_
  obtain ⟨t96, h0, h⟩ := bd h
  refine q_script h0 dL_law_928 ?_
  refine r_i2l dL_law_929 ?_
  refine r_bipush (v := (32 : Int32)) dL_law_930 (by decide) ?_
  refine r_lshl dL_law_932 ?_
  refine r_aload_n dL_law_933 rfl 1 rfl ?_
  refine r_iload dL_law_934 6 rfl ?_
  refine r_iconst (v := (2 : Int32)) dL_law_936 (by decide) ?_
  refine r_iadd dL_law_937 ?_
  obtain ⟨t97, h0, h⟩ := bd h
  refine q_script h0 dL_law_938 ?_
  refine r_i2l dL_law_939 ?_
  refine r_ldc2 dL_law_940 wlL_86 ?_
  refine r_land dL_law_943 ?_
  refine r_lor dL_law_944 ?_
  refine r_aload_n dL_law_945 rfl 1 rfl ?_
  refine r_iload dL_law_946 6 rfl ?_
  refine r_iconst (v := (3 : Int32)) dL_law_948 (by decide) ?_
  refine r_iadd dL_law_949 ?_
  obtain ⟨t98, h0, h⟩ := bd h
  refine q_script h0 dL_law_950 ?_
  obtain ⟨z99, hk, h⟩ := bd h
  obtain ⟨S101, h0, h⟩ := bd h
  refine r_invV (As := [.long ((t96.toInt64 <<< ((32 : Int32).toInt64 &&& 63)) ||| (t97.toInt64 &&& (4294967295 : Int64))), .int t98]) (st := []) dL_law_951 lvL_140 ⟨by decide, by decide, by show k + 1 + 0 ≤ 600128; omega, by show n + 6 + 0 ≤ 7301098; omega, rfl, fun q => by cases q⟩ (Nat.le_of_ble_eq_true rfl) rfl rfl (pk_ok hk) (T_X6_type hl h0) ?_
  refine r_aload_n dL_law_954 rfl 3 rfl ?_
  obtain ⟨z102, hk, h⟩ := bd h
  obtain ⟨t103, S104, h0, h⟩ := bd2_s h
  refine r_invV (As := []) (st := []) dL_law_955 lvL_94 ⟨by decide, by decide, by show k + 1 + 0 + 0 ≤ 600128; omega, by show n + 6 + 0 + 0 ≤ 7301098; omega, rfl, fun q => by cases q⟩ (Nat.le_of_ble_eq_true rfl) rfl rfl (pk_ok hk) (T_X6_thrown hl h0) ?_
  refine r_iload dL_law_958 0 rfl ?_
  refine r_icmp_eq (tgt := 965) dL_law_960 (by decide) (fun c105 => ?_) (fun c105 => ?_)
  · rw [if_pos c105] at h
    refine r_goto (tgt := 1331) dL_law_965 (by decide) ?_
    refine r_widen (k' := k + 2) (n' := n + 12) rfl (by show k + 1 + 0 + 0 ≤ k + 2; omega) (by show n + 6 + 0 + 0 ≤ n + 12; omega) ?_
    refine r_sub [1, 2, 3, 4, 5, 6] rfl ?_
    exact T_L_law_J1331 hl fu hK28 v1 v2 v3 v4 v5 S104 (k + 2) (n + 12) (by omega) (by omega) h
  · rw [if_neg c105] at h
    refine r_iconst (v := (0 : Int32)) dL_law_963 (by decide) ?_
    cases h

def F_L_law_J885 (g : GG) (K28 : Nat → Nat → Nat → Nat → Int32 → Mem → Option Unit) (v1 : Nat) (v2 : Nat) (v3 : Nat) (v4 : Nat) (v5 : Int32) (S : Mem) : Option Unit :=
    F_L_law_J1331 g K28 v1 v2 v3 v4 v5 S
set_option maxRecDepth 100000 in
theorem T_L_law_J885 {g : GG} {l : Launch} (hl : l.stackTraces = false) (fu : Nat) {K28 : Nat → Nat → Nat → Nat → Int32 → Mem → Option Unit} (hK28 : ∀ (v1 : Nat) (v2 : Nat) (v3 : Nat) (v4 : Nat) (v5 : Int32) (S : Mem) (k n : Nat), k + 2 * fu ≤ 600128 → n + 12 * fu ≤ 7301098 → K28 v1 v2 v3 v4 v5 S = some () → Run g l uL_law lawQ 28 [(0, .ref g.2.2.2.1), (1, .ref v1), (2, .ref v2), (3, .ref v3), (4, .ref v4), (5, .int v5)] [] k n S) : ∀ (v1 : Nat) (v2 : Nat) (v3 : Nat) (v4 : Nat) (v5 : Int32) (S : Mem) (k n : Nat), k + 2 * fu ≤ 600128 → n + 12 * fu ≤ 7301098 → F_L_law_J885 g K28 v1 v2 v3 v4 v5 S = some () → Run g l uL_law lawQ 885 [(0, .ref g.2.2.2.1), (1, .ref v1), (2, .ref v2), (3, .ref v3), (4, .ref v4), (5, .int v5)] [] k n S := by
  intro v1 v2 v3 v4 v5 S k n q1 q2 h
  unfold F_L_law_J885 at h
  refine r_goto (tgt := 1331) dL_law_885 (by decide) ?_
  exact T_L_law_J1331 hl fu hK28 v1 v2 v3 v4 v5 S k n (by omega) (by omega) h

def F_L_law_J820 (g : GG) (K28 : Nat → Nat → Nat → Nat → Int32 → Mem → Option Unit) (v1 : Nat) (v2 : Nat) (v3 : Nat) (v4 : Nat) (v5 : Int32) (S : Mem) : Option Unit :=
    (ptX g (v5 + (1 : Int32))).bind fun t106 =>
    (ptX g (v5 + (2 : Int32))).bind fun t107 =>
    bd2 (F_L_written v1 t106 t107 v3 S) fun t108 S109 =>
    (ptX g (v5 + (1 : Int32))).bind fun t110 =>
    (ptX g (v5 + (2 : Int32))).bind fun t111 =>
    (pk 6 S109 v2).bind fun _ =>
    bd2 (F_X6_written v2 t110 t111 S109) fun t113 S114 =>
    (pk 6 S114 v2).bind fun _ =>
    bd2 (F_X6_thrown v2 S114) fun t116 S117 =>
    if t116 = t108 then
      if t108 = 0 then
        (paJ S117 v3 (0 : Int32)).bind fun t120 =>
        if (lg_cmp t120 t113.toInt64) = 0 then
          F_L_law_J885 g K28 v1 v2 v3 v4 v5 S117
        else
          none
      else
        F_L_law_J885 g K28 v1 v2 v3 v4 v5 S117
    else
      none
set_option maxRecDepth 100000 in
theorem T_L_law_J820 {g : GG} {l : Launch} (hl : l.stackTraces = false) (fu : Nat) {K28 : Nat → Nat → Nat → Nat → Int32 → Mem → Option Unit} (hK28 : ∀ (v1 : Nat) (v2 : Nat) (v3 : Nat) (v4 : Nat) (v5 : Int32) (S : Mem) (k n : Nat), k + 2 * fu ≤ 600128 → n + 12 * fu ≤ 7301098 → K28 v1 v2 v3 v4 v5 S = some () → Run g l uL_law lawQ 28 [(0, .ref g.2.2.2.1), (1, .ref v1), (2, .ref v2), (3, .ref v3), (4, .ref v4), (5, .int v5)] [] k n S) : ∀ (v1 : Nat) (v2 : Nat) (v3 : Nat) (v4 : Nat) (v5 : Int32) (S : Mem) (k n : Nat), k + 2 + 2 * fu ≤ 600128 → n + 12 + 12 * fu ≤ 7301098 → F_L_law_J820 g K28 v1 v2 v3 v4 v5 S = some () → Run g l uL_law lawQ 820 [(0, .ref g.2.2.2.1), (1, .ref v1), (2, .ref v2), (3, .ref v3), (4, .ref v4), (5, .int v5)] [] k n S := by
  intro v1 v2 v3 v4 v5 S k n q1 q2 h
  unfold F_L_law_J820 at h
  refine r_aload_n dL_law_820 rfl 1 rfl ?_
  refine r_aload_n dL_law_821 rfl 0 rfl ?_
  refine r_iload dL_law_822 5 rfl ?_
  refine r_iconst (v := (1 : Int32)) dL_law_824 (by decide) ?_
  refine r_iadd dL_law_825 ?_
  obtain ⟨t106, h0, h⟩ := bd h
  refine q_script h0 dL_law_826 ?_
  refine r_aload_n dL_law_827 rfl 0 rfl ?_
  refine r_iload dL_law_828 5 rfl ?_
  refine r_iconst (v := (2 : Int32)) dL_law_830 (by decide) ?_
  refine r_iadd dL_law_831 ?_
  obtain ⟨t107, h0, h⟩ := bd h
  refine q_script h0 dL_law_832 ?_
  refine r_aload_n dL_law_833 rfl 3 rfl ?_
  obtain ⟨t108, S109, h0, h⟩ := bd2_s h
  refine r_invT (As := [.ref v1, .int t106, .int t107, .ref v3]) (st := []) dL_law_834 ltL_133 ⟨by decide, by decide, by show k + 2 ≤ 600128; omega, by show n + 12 ≤ 7301098; omega, rfl, fun q => by cases q⟩ (Nat.le_of_ble_eq_true rfl) rfl rfl (T_L_written hl h0) ?_
  refine r_istore (lv' := [(6, .int t108), (0, .ref g.2.2.2.1), (1, .ref v1), (2, .ref v2), (3, .ref v3), (4, .ref v4), (5, .int v5)]) dL_law_837 (by decide) rfl ?_
  refine r_aload_n dL_law_839 rfl 3 rfl ?_
  refine r_aload_n dL_law_840 rfl 1 rfl ?_
  refine r_iload dL_law_841 6 rfl ?_
  refine r_iconst (v := (1 : Int32)) dL_law_843 (by decide) ?_
  refine r_iadd dL_law_844 ?_
  obtain ⟨t110, h0, h⟩ := bd h
  refine q_script h0 dL_law_845 ?_
  refine r_aload_n dL_law_846 rfl 1 rfl ?_
  refine r_iload dL_law_847 6 rfl ?_
  refine r_iconst (v := (2 : Int32)) dL_law_849 (by decide) ?_
  refine r_iadd dL_law_850 ?_
  obtain ⟨t111, h0, h⟩ := bd h
  refine q_script h0 dL_law_851 ?_
  obtain ⟨z112, hk, h⟩ := bd h
  obtain ⟨t113, S114, h0, h⟩ := bd2_s h
  refine r_invV (As := [.int t110, .int t111]) (st := []) dL_law_852 lvL_136 ⟨by decide, by decide, by show k + 2 + 0 ≤ 600128; omega, by show n + 12 + 0 ≤ 7301098; omega, rfl, fun q => by cases q⟩ (Nat.le_of_ble_eq_true rfl) rfl rfl (pk_ok hk) (T_X6_written hl h0) ?_
  refine r_istore (lv' := [(7, .int t113), (6, .int t108), (0, .ref g.2.2.2.1), (1, .ref v1), (2, .ref v2), (3, .ref v3), (4, .ref v4), (5, .int v5)]) dL_law_855 (by decide) rfl ?_
  refine r_aload_n dL_law_857 rfl 4 rfl ?_
  obtain ⟨z115, hk, h⟩ := bd h
  obtain ⟨t116, S117, h0, h⟩ := bd2_s h
  refine r_invV (As := []) (st := []) dL_law_858 lvL_94 ⟨by decide, by decide, by show k + 2 + 0 + 0 ≤ 600128; omega, by show n + 12 + 0 + 0 ≤ 7301098; omega, rfl, fun q => by cases q⟩ (Nat.le_of_ble_eq_true rfl) rfl rfl (pk_ok hk) (T_X6_thrown hl h0) ?_
  refine r_iload dL_law_861 1 rfl ?_
  refine r_icmp_eq (tgt := 868) dL_law_863 (by decide) (fun c118 => ?_) (fun c118 => ?_)
  · rw [if_pos c118] at h
    refine r_iload dL_law_868 1 rfl ?_
    refine r_if_ne (tgt := 885) dL_law_870 (by decide) (fun c119 => ?_) (fun c119 => ?_)
    · rw [if_neg c119] at h
      refine r_widen (k' := k + 2) (n' := n + 12) rfl (by show k + 2 + 0 + 0 ≤ k + 2; omega) (by show n + 12 + 0 + 0 ≤ n + 12; omega) ?_
      refine r_sub [2, 3, 4, 5, 6, 7] rfl ?_
      exact T_L_law_J885 hl fu hK28 v1 v2 v3 v4 v5 S117 (k + 2) (n + 12) (by omega) (by omega) h
    · rw [if_pos c119] at h
      refine r_aload_n dL_law_873 rfl 5 rfl ?_
      refine r_iconst (v := (0 : Int32)) dL_law_874 (by decide) ?_
      obtain ⟨t120, h0, h⟩ := bd h
      refine q_laload h0 dL_law_875 ?_
      refine r_iload dL_law_876 0 rfl ?_
      refine r_i2l dL_law_878 ?_
      refine r_lcmp dL_law_879 ?_
      refine r_if_eq (tgt := 885) dL_law_880 (by decide) (fun c121 => ?_) (fun c121 => ?_)
      · rw [if_pos c121] at h
        refine r_widen (k' := k + 2) (n' := n + 12) rfl (by show k + 2 + 0 + 0 ≤ k + 2; omega) (by show n + 12 + 0 + 0 ≤ n + 12; omega) ?_
        refine r_sub [2, 3, 4, 5, 6, 7] rfl ?_
        exact T_L_law_J885 hl fu hK28 v1 v2 v3 v4 v5 S117 (k + 2) (n + 12) (by omega) (by omega) h
      · rw [if_neg c121] at h
        refine r_iconst (v := (0 : Int32)) dL_law_883 (by decide) ?_
        cases h
  · rw [if_neg c118] at h
    refine r_iconst (v := (0 : Int32)) dL_law_866 (by decide) ?_
    cases h

def F_L_law_J784 (g : GG) (K28 : Nat → Nat → Nat → Nat → Int32 → Mem → Option Unit) (v1 : Nat) (v2 : Nat) (v3 : Nat) (v4 : Nat) (v5 : Int32) (S : Mem) : Option Unit :=
    (ptX g (v5 + (1 : Int32))).bind fun t122 =>
    bd2 (F_L_join v1 t122 S) fun t123 S124 =>
    (ptX g (v5 + (1 : Int32))).bind fun t125 =>
    (pk 6 S124 v2).bind fun _ =>
    (F_X6_join v2 t125 S124).bind fun S128 =>
    (pk 6 S128 v2).bind fun _ =>
    bd2 (F_X6_thrown v2 S128) fun t130 S131 =>
    if t130 = t123 then
      F_L_law_J1331 g K28 v1 v2 v3 v4 v5 S131
    else
      none
set_option maxRecDepth 100000 in
theorem T_L_law_J784 {g : GG} {l : Launch} (hl : l.stackTraces = false) (fu : Nat) {K28 : Nat → Nat → Nat → Nat → Int32 → Mem → Option Unit} (hK28 : ∀ (v1 : Nat) (v2 : Nat) (v3 : Nat) (v4 : Nat) (v5 : Int32) (S : Mem) (k n : Nat), k + 2 * fu ≤ 600128 → n + 12 * fu ≤ 7301098 → K28 v1 v2 v3 v4 v5 S = some () → Run g l uL_law lawQ 28 [(0, .ref g.2.2.2.1), (1, .ref v1), (2, .ref v2), (3, .ref v3), (4, .ref v4), (5, .int v5)] [] k n S) : ∀ (v1 : Nat) (v2 : Nat) (v3 : Nat) (v4 : Nat) (v5 : Int32) (S : Mem) (k n : Nat), k + 2 + 2 * fu ≤ 600128 → n + 12 + 12 * fu ≤ 7301098 → F_L_law_J784 g K28 v1 v2 v3 v4 v5 S = some () → Run g l uL_law lawQ 784 [(0, .ref g.2.2.2.1), (1, .ref v1), (2, .ref v2), (3, .ref v3), (4, .ref v4), (5, .int v5)] [] k n S := by
  intro v1 v2 v3 v4 v5 S k n q1 q2 h
  unfold F_L_law_J784 at h
  refine r_aload_n dL_law_784 rfl 1 rfl ?_
  refine r_aload_n dL_law_785 rfl 0 rfl ?_
  refine r_iload dL_law_786 5 rfl ?_
  refine r_iconst (v := (1 : Int32)) dL_law_788 (by decide) ?_
  refine r_iadd dL_law_789 ?_
  obtain ⟨t122, h0, h⟩ := bd h
  refine q_script h0 dL_law_790 ?_
  obtain ⟨t123, S124, h0, h⟩ := bd2_s h
  refine r_invT (As := [.ref v1, .int t122]) (st := []) dL_law_791 ltL_130 ⟨by decide, by decide, by show k + 2 ≤ 600128; omega, by show n + 12 ≤ 7301098; omega, rfl, fun q => by cases q⟩ (Nat.le_of_ble_eq_true rfl) rfl rfl (T_L_join hl h0) ?_
  refine r_istore (lv' := [(6, .int t123), (0, .ref g.2.2.2.1), (1, .ref v1), (2, .ref v2), (3, .ref v3), (4, .ref v4), (5, .int v5)]) dL_law_794 (by decide) rfl ?_
  refine r_aload_n dL_law_796 rfl 3 rfl ?_
  refine r_aload_n dL_law_797 rfl 1 rfl ?_
  refine r_iload dL_law_798 6 rfl ?_
  refine r_iconst (v := (1 : Int32)) dL_law_800 (by decide) ?_
  refine r_iadd dL_law_801 ?_
  obtain ⟨t125, h0, h⟩ := bd h
  refine q_script h0 dL_law_802 ?_
  obtain ⟨z126, hk, h⟩ := bd h
  obtain ⟨S128, h0, h⟩ := bd h
  refine r_invV (As := [.int t125]) (st := []) dL_law_803 lvL_132 ⟨by decide, by decide, by show k + 2 + 0 ≤ 600128; omega, by show n + 12 + 0 ≤ 7301098; omega, rfl, fun q => by cases q⟩ (Nat.le_of_ble_eq_true rfl) rfl rfl (pk_ok hk) (T_X6_join hl h0) ?_
  refine r_aload_n dL_law_806 rfl 3 rfl ?_
  obtain ⟨z129, hk, h⟩ := bd h
  obtain ⟨t130, S131, h0, h⟩ := bd2_s h
  refine r_invV (As := []) (st := []) dL_law_807 lvL_94 ⟨by decide, by decide, by show k + 2 + 0 + 0 ≤ 600128; omega, by show n + 12 + 0 + 0 ≤ 7301098; omega, rfl, fun q => by cases q⟩ (Nat.le_of_ble_eq_true rfl) rfl rfl (pk_ok hk) (T_X6_thrown hl h0) ?_
  refine r_iload dL_law_810 0 rfl ?_
  refine r_icmp_eq (tgt := 817) dL_law_812 (by decide) (fun c132 => ?_) (fun c132 => ?_)
  · rw [if_pos c132] at h
    refine r_goto (tgt := 1331) dL_law_817 (by decide) ?_
    refine r_widen (k' := k + 2) (n' := n + 12) rfl (by show k + 2 + 0 + 0 ≤ k + 2; omega) (by show n + 12 + 0 + 0 ≤ n + 12; omega) ?_
    refine r_sub [1, 2, 3, 4, 5, 6] rfl ?_
    exact T_L_law_J1331 hl fu hK28 v1 v2 v3 v4 v5 S131 (k + 2) (n + 12) (by omega) (by omega) h
  · rw [if_neg c132] at h
    refine r_iconst (v := (0 : Int32)) dL_law_815 (by decide) ?_
    cases h

def F_L_law_J781 (g : GG) (K28 : Nat → Nat → Nat → Nat → Int32 → Mem → Option Unit) (v1 : Nat) (v2 : Nat) (v3 : Nat) (v4 : Nat) (v5 : Int32) (S : Mem) : Option Unit :=
    F_L_law_J1331 g K28 v1 v2 v3 v4 v5 S
set_option maxRecDepth 100000 in
theorem T_L_law_J781 {g : GG} {l : Launch} (hl : l.stackTraces = false) (fu : Nat) {K28 : Nat → Nat → Nat → Nat → Int32 → Mem → Option Unit} (hK28 : ∀ (v1 : Nat) (v2 : Nat) (v3 : Nat) (v4 : Nat) (v5 : Int32) (S : Mem) (k n : Nat), k + 2 * fu ≤ 600128 → n + 12 * fu ≤ 7301098 → K28 v1 v2 v3 v4 v5 S = some () → Run g l uL_law lawQ 28 [(0, .ref g.2.2.2.1), (1, .ref v1), (2, .ref v2), (3, .ref v3), (4, .ref v4), (5, .int v5)] [] k n S) : ∀ (v1 : Nat) (v2 : Nat) (v3 : Nat) (v4 : Nat) (v5 : Int32) (S : Mem) (k n : Nat), k + 2 * fu ≤ 600128 → n + 12 * fu ≤ 7301098 → F_L_law_J781 g K28 v1 v2 v3 v4 v5 S = some () → Run g l uL_law lawQ 781 [(0, .ref g.2.2.2.1), (1, .ref v1), (2, .ref v2), (3, .ref v3), (4, .ref v4), (5, .int v5)] [] k n S := by
  intro v1 v2 v3 v4 v5 S k n q1 q2 h
  unfold F_L_law_J781 at h
  refine r_goto (tgt := 1331) dL_law_781 (by decide) ?_
  exact T_L_law_J1331 hl fu hK28 v1 v2 v3 v4 v5 S k n (by omega) (by omega) h

def F_L_law_J728 (g : GG) (K28 : Nat → Nat → Nat → Nat → Int32 → Mem → Option Unit) (v1 : Nat) (v2 : Nat) (v3 : Nat) (v4 : Nat) (v5 : Int32) (S : Mem) : Option Unit :=
    (ptX g (v5 + (1 : Int32))).bind fun t133 =>
    bd2 (F_L_split v1 t133 v3 S) fun t134 S135 =>
    (ptX g (v5 + (1 : Int32))).bind fun t136 =>
    (pk 6 S135 v2).bind fun _ =>
    bd2 (F_X6_split v2 t136 S135) fun t138 S139 =>
    (pk 6 S139 v2).bind fun _ =>
    bd2 (F_X6_thrown v2 S139) fun t141 S142 =>
    if t141 = t134 then
      if t134 = 0 then
        (paJ S142 v3 (0 : Int32)).bind fun t145 =>
        if (lg_cmp t145 t138.toInt64) = 0 then
          F_L_law_J781 g K28 v1 v2 v3 v4 v5 S142
        else
          none
      else
        F_L_law_J781 g K28 v1 v2 v3 v4 v5 S142
    else
      none
set_option maxRecDepth 100000 in
theorem T_L_law_J728 {g : GG} {l : Launch} (hl : l.stackTraces = false) (fu : Nat) {K28 : Nat → Nat → Nat → Nat → Int32 → Mem → Option Unit} (hK28 : ∀ (v1 : Nat) (v2 : Nat) (v3 : Nat) (v4 : Nat) (v5 : Int32) (S : Mem) (k n : Nat), k + 2 * fu ≤ 600128 → n + 12 * fu ≤ 7301098 → K28 v1 v2 v3 v4 v5 S = some () → Run g l uL_law lawQ 28 [(0, .ref g.2.2.2.1), (1, .ref v1), (2, .ref v2), (3, .ref v3), (4, .ref v4), (5, .int v5)] [] k n S) : ∀ (v1 : Nat) (v2 : Nat) (v3 : Nat) (v4 : Nat) (v5 : Int32) (S : Mem) (k n : Nat), k + 2 + 2 * fu ≤ 600128 → n + 12 + 12 * fu ≤ 7301098 → F_L_law_J728 g K28 v1 v2 v3 v4 v5 S = some () → Run g l uL_law lawQ 728 [(0, .ref g.2.2.2.1), (1, .ref v1), (2, .ref v2), (3, .ref v3), (4, .ref v4), (5, .int v5)] [] k n S := by
  intro v1 v2 v3 v4 v5 S k n q1 q2 h
  unfold F_L_law_J728 at h
  refine r_aload_n dL_law_728 rfl 1 rfl ?_
  refine r_aload_n dL_law_729 rfl 0 rfl ?_
  refine r_iload dL_law_730 5 rfl ?_
  refine r_iconst (v := (1 : Int32)) dL_law_732 (by decide) ?_
  refine r_iadd dL_law_733 ?_
  obtain ⟨t133, h0, h⟩ := bd h
  refine q_script h0 dL_law_734 ?_
  refine r_aload_n dL_law_735 rfl 3 rfl ?_
  obtain ⟨t134, S135, h0, h⟩ := bd2_s h
  refine r_invT (As := [.ref v1, .int t133, .ref v3]) (st := []) dL_law_736 ltL_127 ⟨by decide, by decide, by show k + 2 ≤ 600128; omega, by show n + 12 ≤ 7301098; omega, rfl, fun q => by cases q⟩ (Nat.le_of_ble_eq_true rfl) rfl rfl (T_L_split hl h0) ?_
  refine r_istore (lv' := [(6, .int t134), (0, .ref g.2.2.2.1), (1, .ref v1), (2, .ref v2), (3, .ref v3), (4, .ref v4), (5, .int v5)]) dL_law_739 (by decide) rfl ?_
  refine r_aload_n dL_law_741 rfl 3 rfl ?_
  refine r_aload_n dL_law_742 rfl 1 rfl ?_
  refine r_iload dL_law_743 6 rfl ?_
  refine r_iconst (v := (1 : Int32)) dL_law_745 (by decide) ?_
  refine r_iadd dL_law_746 ?_
  obtain ⟨t136, h0, h⟩ := bd h
  refine q_script h0 dL_law_747 ?_
  obtain ⟨z137, hk, h⟩ := bd h
  obtain ⟨t138, S139, h0, h⟩ := bd2_s h
  refine r_invV (As := [.int t136]) (st := []) dL_law_748 lvL_129 ⟨by decide, by decide, by show k + 2 + 0 ≤ 600128; omega, by show n + 12 + 0 ≤ 7301098; omega, rfl, fun q => by cases q⟩ (Nat.le_of_ble_eq_true rfl) rfl rfl (pk_ok hk) (T_X6_split hl h0) ?_
  refine r_istore (lv' := [(7, .int t138), (6, .int t134), (0, .ref g.2.2.2.1), (1, .ref v1), (2, .ref v2), (3, .ref v3), (4, .ref v4), (5, .int v5)]) dL_law_751 (by decide) rfl ?_
  refine r_aload_n dL_law_753 rfl 4 rfl ?_
  obtain ⟨z140, hk, h⟩ := bd h
  obtain ⟨t141, S142, h0, h⟩ := bd2_s h
  refine r_invV (As := []) (st := []) dL_law_754 lvL_94 ⟨by decide, by decide, by show k + 2 + 0 + 0 ≤ 600128; omega, by show n + 12 + 0 + 0 ≤ 7301098; omega, rfl, fun q => by cases q⟩ (Nat.le_of_ble_eq_true rfl) rfl rfl (pk_ok hk) (T_X6_thrown hl h0) ?_
  refine r_iload dL_law_757 1 rfl ?_
  refine r_icmp_eq (tgt := 764) dL_law_759 (by decide) (fun c143 => ?_) (fun c143 => ?_)
  · rw [if_pos c143] at h
    refine r_iload dL_law_764 1 rfl ?_
    refine r_if_ne (tgt := 781) dL_law_766 (by decide) (fun c144 => ?_) (fun c144 => ?_)
    · rw [if_neg c144] at h
      refine r_widen (k' := k + 2) (n' := n + 12) rfl (by show k + 2 + 0 + 0 ≤ k + 2; omega) (by show n + 12 + 0 + 0 ≤ n + 12; omega) ?_
      refine r_sub [2, 3, 4, 5, 6, 7] rfl ?_
      exact T_L_law_J781 hl fu hK28 v1 v2 v3 v4 v5 S142 (k + 2) (n + 12) (by omega) (by omega) h
    · rw [if_pos c144] at h
      refine r_aload_n dL_law_769 rfl 5 rfl ?_
      refine r_iconst (v := (0 : Int32)) dL_law_770 (by decide) ?_
      obtain ⟨t145, h0, h⟩ := bd h
      refine q_laload h0 dL_law_771 ?_
      refine r_iload dL_law_772 0 rfl ?_
      refine r_i2l dL_law_774 ?_
      refine r_lcmp dL_law_775 ?_
      refine r_if_eq (tgt := 781) dL_law_776 (by decide) (fun c146 => ?_) (fun c146 => ?_)
      · rw [if_pos c146] at h
        refine r_widen (k' := k + 2) (n' := n + 12) rfl (by show k + 2 + 0 + 0 ≤ k + 2; omega) (by show n + 12 + 0 + 0 ≤ n + 12; omega) ?_
        refine r_sub [2, 3, 4, 5, 6, 7] rfl ?_
        exact T_L_law_J781 hl fu hK28 v1 v2 v3 v4 v5 S142 (k + 2) (n + 12) (by omega) (by omega) h
      · rw [if_neg c146] at h
        refine r_iconst (v := (0 : Int32)) dL_law_779 (by decide) ?_
        cases h
  · rw [if_neg c143] at h
    refine r_iconst (v := (0 : Int32)) dL_law_762 (by decide) ?_
    cases h

def F_L_law_J725 (g : GG) (K28 : Nat → Nat → Nat → Nat → Int32 → Mem → Option Unit) (v1 : Nat) (v2 : Nat) (v3 : Nat) (v4 : Nat) (v5 : Int32) (S : Mem) : Option Unit :=
    F_L_law_J1331 g K28 v1 v2 v3 v4 v5 S
set_option maxRecDepth 100000 in
theorem T_L_law_J725 {g : GG} {l : Launch} (hl : l.stackTraces = false) (fu : Nat) {K28 : Nat → Nat → Nat → Nat → Int32 → Mem → Option Unit} (hK28 : ∀ (v1 : Nat) (v2 : Nat) (v3 : Nat) (v4 : Nat) (v5 : Int32) (S : Mem) (k n : Nat), k + 2 * fu ≤ 600128 → n + 12 * fu ≤ 7301098 → K28 v1 v2 v3 v4 v5 S = some () → Run g l uL_law lawQ 28 [(0, .ref g.2.2.2.1), (1, .ref v1), (2, .ref v2), (3, .ref v3), (4, .ref v4), (5, .int v5)] [] k n S) : ∀ (v1 : Nat) (v2 : Nat) (v3 : Nat) (v4 : Nat) (v5 : Int32) (S : Mem) (k n : Nat), k + 2 * fu ≤ 600128 → n + 12 * fu ≤ 7301098 → F_L_law_J725 g K28 v1 v2 v3 v4 v5 S = some () → Run g l uL_law lawQ 725 [(0, .ref g.2.2.2.1), (1, .ref v1), (2, .ref v2), (3, .ref v3), (4, .ref v4), (5, .int v5)] [] k n S := by
  intro v1 v2 v3 v4 v5 S k n q1 q2 h
  unfold F_L_law_J725 at h
  refine r_goto (tgt := 1331) dL_law_725 (by decide) ?_
  exact T_L_law_J1331 hl fu hK28 v1 v2 v3 v4 v5 S k n (by omega) (by omega) h

def F_L_law_J672 (g : GG) (K28 : Nat → Nat → Nat → Nat → Int32 → Mem → Option Unit) (v1 : Nat) (v2 : Nat) (v3 : Nat) (v4 : Nat) (v5 : Int32) (S : Mem) : Option Unit :=
    (ptX g (v5 + (1 : Int32))).bind fun t147 =>
    bd2 (F_L_normalise v1 t147 v3 S) fun t148 S149 =>
    (ptX g (v5 + (1 : Int32))).bind fun t150 =>
    (pk 6 S149 v2).bind fun _ =>
    bd2 (F_X6_normalise v2 t150 S149) fun t152 S153 =>
    (pk 6 S153 v2).bind fun _ =>
    bd2 (F_X6_thrown v2 S153) fun t155 S156 =>
    if t155 = t148 then
      if t148 = 0 then
        (paJ S156 v3 (0 : Int32)).bind fun t159 =>
        if (lg_cmp t159 t152.toInt64) = 0 then
          F_L_law_J725 g K28 v1 v2 v3 v4 v5 S156
        else
          none
      else
        F_L_law_J725 g K28 v1 v2 v3 v4 v5 S156
    else
      none
set_option maxRecDepth 100000 in
theorem T_L_law_J672 {g : GG} {l : Launch} (hl : l.stackTraces = false) (fu : Nat) {K28 : Nat → Nat → Nat → Nat → Int32 → Mem → Option Unit} (hK28 : ∀ (v1 : Nat) (v2 : Nat) (v3 : Nat) (v4 : Nat) (v5 : Int32) (S : Mem) (k n : Nat), k + 2 * fu ≤ 600128 → n + 12 * fu ≤ 7301098 → K28 v1 v2 v3 v4 v5 S = some () → Run g l uL_law lawQ 28 [(0, .ref g.2.2.2.1), (1, .ref v1), (2, .ref v2), (3, .ref v3), (4, .ref v4), (5, .int v5)] [] k n S) : ∀ (v1 : Nat) (v2 : Nat) (v3 : Nat) (v4 : Nat) (v5 : Int32) (S : Mem) (k n : Nat), k + 2 + 2 * fu ≤ 600128 → n + 12 + 12 * fu ≤ 7301098 → F_L_law_J672 g K28 v1 v2 v3 v4 v5 S = some () → Run g l uL_law lawQ 672 [(0, .ref g.2.2.2.1), (1, .ref v1), (2, .ref v2), (3, .ref v3), (4, .ref v4), (5, .int v5)] [] k n S := by
  intro v1 v2 v3 v4 v5 S k n q1 q2 h
  unfold F_L_law_J672 at h
  refine r_aload_n dL_law_672 rfl 1 rfl ?_
  refine r_aload_n dL_law_673 rfl 0 rfl ?_
  refine r_iload dL_law_674 5 rfl ?_
  refine r_iconst (v := (1 : Int32)) dL_law_676 (by decide) ?_
  refine r_iadd dL_law_677 ?_
  obtain ⟨t147, h0, h⟩ := bd h
  refine q_script h0 dL_law_678 ?_
  refine r_aload_n dL_law_679 rfl 3 rfl ?_
  obtain ⟨t148, S149, h0, h⟩ := bd2_s h
  refine r_invT (As := [.ref v1, .int t147, .ref v3]) (st := []) dL_law_680 ltL_123 ⟨by decide, by decide, by show k + 1 ≤ 600128; omega, by show n + 6 ≤ 7301098; omega, rfl, fun q => by cases q⟩ (Nat.le_of_ble_eq_true rfl) rfl rfl (T_L_normalise hl h0) ?_
  refine r_istore (lv' := [(6, .int t148), (0, .ref g.2.2.2.1), (1, .ref v1), (2, .ref v2), (3, .ref v3), (4, .ref v4), (5, .int v5)]) dL_law_683 (by decide) rfl ?_
  refine r_aload_n dL_law_685 rfl 3 rfl ?_
  refine r_aload_n dL_law_686 rfl 1 rfl ?_
  refine r_iload dL_law_687 6 rfl ?_
  refine r_iconst (v := (1 : Int32)) dL_law_689 (by decide) ?_
  refine r_iadd dL_law_690 ?_
  obtain ⟨t150, h0, h⟩ := bd h
  refine q_script h0 dL_law_691 ?_
  obtain ⟨z151, hk, h⟩ := bd h
  obtain ⟨t152, S153, h0, h⟩ := bd2_s h
  refine r_invV (As := [.int t150]) (st := []) dL_law_692 lvL_126 ⟨by decide, by decide, by show k + 1 + 0 ≤ 600128; omega, by show n + 6 + 0 ≤ 7301098; omega, rfl, fun q => by cases q⟩ (Nat.le_of_ble_eq_true rfl) rfl rfl (pk_ok hk) (T_X6_normalise hl h0) ?_
  refine r_istore (lv' := [(7, .int t152), (6, .int t148), (0, .ref g.2.2.2.1), (1, .ref v1), (2, .ref v2), (3, .ref v3), (4, .ref v4), (5, .int v5)]) dL_law_695 (by decide) rfl ?_
  refine r_aload_n dL_law_697 rfl 4 rfl ?_
  obtain ⟨z154, hk, h⟩ := bd h
  obtain ⟨t155, S156, h0, h⟩ := bd2_s h
  refine r_invV (As := []) (st := []) dL_law_698 lvL_94 ⟨by decide, by decide, by show k + 1 + 0 + 0 ≤ 600128; omega, by show n + 6 + 0 + 0 ≤ 7301098; omega, rfl, fun q => by cases q⟩ (Nat.le_of_ble_eq_true rfl) rfl rfl (pk_ok hk) (T_X6_thrown hl h0) ?_
  refine r_iload dL_law_701 1 rfl ?_
  refine r_icmp_eq (tgt := 708) dL_law_703 (by decide) (fun c157 => ?_) (fun c157 => ?_)
  · rw [if_pos c157] at h
    refine r_iload dL_law_708 1 rfl ?_
    refine r_if_ne (tgt := 725) dL_law_710 (by decide) (fun c158 => ?_) (fun c158 => ?_)
    · rw [if_neg c158] at h
      refine r_widen (k' := k + 2) (n' := n + 12) rfl (by show k + 1 + 0 + 0 ≤ k + 2; omega) (by show n + 6 + 0 + 0 ≤ n + 12; omega) ?_
      refine r_sub [2, 3, 4, 5, 6, 7] rfl ?_
      exact T_L_law_J725 hl fu hK28 v1 v2 v3 v4 v5 S156 (k + 2) (n + 12) (by omega) (by omega) h
    · rw [if_pos c158] at h
      refine r_aload_n dL_law_713 rfl 5 rfl ?_
      refine r_iconst (v := (0 : Int32)) dL_law_714 (by decide) ?_
      obtain ⟨t159, h0, h⟩ := bd h
      refine q_laload h0 dL_law_715 ?_
      refine r_iload dL_law_716 0 rfl ?_
      refine r_i2l dL_law_718 ?_
      refine r_lcmp dL_law_719 ?_
      refine r_if_eq (tgt := 725) dL_law_720 (by decide) (fun c160 => ?_) (fun c160 => ?_)
      · rw [if_pos c160] at h
        refine r_widen (k' := k + 2) (n' := n + 12) rfl (by show k + 1 + 0 + 0 ≤ k + 2; omega) (by show n + 6 + 0 + 0 ≤ n + 12; omega) ?_
        refine r_sub [2, 3, 4, 5, 6, 7] rfl ?_
        exact T_L_law_J725 hl fu hK28 v1 v2 v3 v4 v5 S156 (k + 2) (n + 12) (by omega) (by omega) h
      · rw [if_neg c160] at h
        refine r_iconst (v := (0 : Int32)) dL_law_723 (by decide) ?_
        cases h
  · rw [if_neg c157] at h
    refine r_iconst (v := (0 : Int32)) dL_law_706 (by decide) ?_
    cases h

def F_L_law_J636 (g : GG) (K28 : Nat → Nat → Nat → Nat → Int32 → Mem → Option Unit) (v1 : Nat) (v2 : Nat) (v3 : Nat) (v4 : Nat) (v5 : Int32) (S : Mem) : Option Unit :=
    (ptX g (v5 + (1 : Int32))).bind fun t161 =>
    bd2 (F_L_remove v1 t161 S) fun t162 S163 =>
    (ptX g (v5 + (1 : Int32))).bind fun t164 =>
    (pk 6 S163 v2).bind fun _ =>
    (F_X6_remove v2 t164 S163).bind fun S167 =>
    (pk 6 S167 v2).bind fun _ =>
    bd2 (F_X6_thrown v2 S167) fun t169 S170 =>
    if t169 = t162 then
      F_L_law_J1331 g K28 v1 v2 v3 v4 v5 S170
    else
      none
set_option maxRecDepth 100000 in
theorem T_L_law_J636 {g : GG} {l : Launch} (hl : l.stackTraces = false) (fu : Nat) {K28 : Nat → Nat → Nat → Nat → Int32 → Mem → Option Unit} (hK28 : ∀ (v1 : Nat) (v2 : Nat) (v3 : Nat) (v4 : Nat) (v5 : Int32) (S : Mem) (k n : Nat), k + 2 * fu ≤ 600128 → n + 12 * fu ≤ 7301098 → K28 v1 v2 v3 v4 v5 S = some () → Run g l uL_law lawQ 28 [(0, .ref g.2.2.2.1), (1, .ref v1), (2, .ref v2), (3, .ref v3), (4, .ref v4), (5, .int v5)] [] k n S) : ∀ (v1 : Nat) (v2 : Nat) (v3 : Nat) (v4 : Nat) (v5 : Int32) (S : Mem) (k n : Nat), k + 2 + 2 * fu ≤ 600128 → n + 12 + 12 * fu ≤ 7301098 → F_L_law_J636 g K28 v1 v2 v3 v4 v5 S = some () → Run g l uL_law lawQ 636 [(0, .ref g.2.2.2.1), (1, .ref v1), (2, .ref v2), (3, .ref v3), (4, .ref v4), (5, .int v5)] [] k n S := by
  intro v1 v2 v3 v4 v5 S k n q1 q2 h
  unfold F_L_law_J636 at h
  refine r_aload_n dL_law_636 rfl 1 rfl ?_
  refine r_aload_n dL_law_637 rfl 0 rfl ?_
  refine r_iload dL_law_638 5 rfl ?_
  refine r_iconst (v := (1 : Int32)) dL_law_640 (by decide) ?_
  refine r_iadd dL_law_641 ?_
  obtain ⟨t161, h0, h⟩ := bd h
  refine q_script h0 dL_law_642 ?_
  obtain ⟨t162, S163, h0, h⟩ := bd2_s h
  refine r_invT (As := [.ref v1, .int t161]) (st := []) dL_law_643 ltL_119 ⟨by decide, by decide, by show k + 1 ≤ 600128; omega, by show n + 6 ≤ 7301098; omega, rfl, fun q => by cases q⟩ (Nat.le_of_ble_eq_true rfl) rfl rfl (T_L_remove hl h0) ?_
  refine r_istore (lv' := [(6, .int t162), (0, .ref g.2.2.2.1), (1, .ref v1), (2, .ref v2), (3, .ref v3), (4, .ref v4), (5, .int v5)]) dL_law_646 (by decide) rfl ?_
  refine r_aload_n dL_law_648 rfl 3 rfl ?_
  refine r_aload_n dL_law_649 rfl 1 rfl ?_
  refine r_iload dL_law_650 6 rfl ?_
  refine r_iconst (v := (1 : Int32)) dL_law_652 (by decide) ?_
  refine r_iadd dL_law_653 ?_
  obtain ⟨t164, h0, h⟩ := bd h
  refine q_script h0 dL_law_654 ?_
  obtain ⟨z165, hk, h⟩ := bd h
  obtain ⟨S167, h0, h⟩ := bd h
  refine r_invV (As := [.int t164]) (st := []) dL_law_655 lvL_122 ⟨by decide, by decide, by show k + 1 + 0 ≤ 600128; omega, by show n + 6 + 0 ≤ 7301098; omega, rfl, fun q => by cases q⟩ (Nat.le_of_ble_eq_true rfl) rfl rfl (pk_ok hk) (T_X6_remove hl h0) ?_
  refine r_aload_n dL_law_658 rfl 3 rfl ?_
  obtain ⟨z168, hk, h⟩ := bd h
  obtain ⟨t169, S170, h0, h⟩ := bd2_s h
  refine r_invV (As := []) (st := []) dL_law_659 lvL_94 ⟨by decide, by decide, by show k + 1 + 0 + 0 ≤ 600128; omega, by show n + 6 + 0 + 0 ≤ 7301098; omega, rfl, fun q => by cases q⟩ (Nat.le_of_ble_eq_true rfl) rfl rfl (pk_ok hk) (T_X6_thrown hl h0) ?_
  refine r_iload dL_law_662 0 rfl ?_
  refine r_icmp_eq (tgt := 669) dL_law_664 (by decide) (fun c171 => ?_) (fun c171 => ?_)
  · rw [if_pos c171] at h
    refine r_goto (tgt := 1331) dL_law_669 (by decide) ?_
    refine r_widen (k' := k + 2) (n' := n + 12) rfl (by show k + 1 + 0 + 0 ≤ k + 2; omega) (by show n + 6 + 0 + 0 ≤ n + 12; omega) ?_
    refine r_sub [1, 2, 3, 4, 5, 6] rfl ?_
    exact T_L_law_J1331 hl fu hK28 v1 v2 v3 v4 v5 S170 (k + 2) (n + 12) (by omega) (by omega) h
  · rw [if_neg c171] at h
    refine r_iconst (v := (0 : Int32)) dL_law_667 (by decide) ?_
    cases h

def F_L_law_J633 (g : GG) (K28 : Nat → Nat → Nat → Nat → Int32 → Mem → Option Unit) (v1 : Nat) (v2 : Nat) (v3 : Nat) (v4 : Nat) (v5 : Int32) (S : Mem) : Option Unit :=
    F_L_law_J1331 g K28 v1 v2 v3 v4 v5 S
set_option maxRecDepth 100000 in
theorem T_L_law_J633 {g : GG} {l : Launch} (hl : l.stackTraces = false) (fu : Nat) {K28 : Nat → Nat → Nat → Nat → Int32 → Mem → Option Unit} (hK28 : ∀ (v1 : Nat) (v2 : Nat) (v3 : Nat) (v4 : Nat) (v5 : Int32) (S : Mem) (k n : Nat), k + 2 * fu ≤ 600128 → n + 12 * fu ≤ 7301098 → K28 v1 v2 v3 v4 v5 S = some () → Run g l uL_law lawQ 28 [(0, .ref g.2.2.2.1), (1, .ref v1), (2, .ref v2), (3, .ref v3), (4, .ref v4), (5, .int v5)] [] k n S) : ∀ (v1 : Nat) (v2 : Nat) (v3 : Nat) (v4 : Nat) (v5 : Int32) (S : Mem) (k n : Nat), k + 2 * fu ≤ 600128 → n + 12 * fu ≤ 7301098 → F_L_law_J633 g K28 v1 v2 v3 v4 v5 S = some () → Run g l uL_law lawQ 633 [(0, .ref g.2.2.2.1), (1, .ref v1), (2, .ref v2), (3, .ref v3), (4, .ref v4), (5, .int v5)] [] k n S := by
  intro v1 v2 v3 v4 v5 S k n q1 q2 h
  unfold F_L_law_J633 at h
  refine r_goto (tgt := 1331) dL_law_633 (by decide) ?_
  exact T_L_law_J1331 hl fu hK28 v1 v2 v3 v4 v5 S k n (by omega) (by omega) h

def F_L_law_J592 (g : GG) (K28 : Nat → Nat → Nat → Nat → Int32 → Mem → Option Unit) (v1 : Nat) (v2 : Nat) (v3 : Nat) (v4 : Nat) (v5 : Int32) (S : Mem) : Option Unit :=
    bd2 (F_L_add v1 v3 S) fun t172 S173 =>
    (pk 6 S173 v2).bind fun _ =>
    bd2 (F_X6_add v2 S173) fun t175 S176 =>
    (pk 6 S176 v2).bind fun _ =>
    bd2 (F_X6_thrown v2 S176) fun t178 S179 =>
    if t178 = t172 then
      if t172 = 0 then
        (paJ S179 v3 (0 : Int32)).bind fun t182 =>
        if (lg_cmp t182 t175.toInt64) = 0 then
          F_L_law_J633 g K28 v1 v2 v3 v4 v5 S179
        else
          none
      else
        F_L_law_J633 g K28 v1 v2 v3 v4 v5 S179
    else
      none
set_option maxRecDepth 100000 in
theorem T_L_law_J592 {g : GG} {l : Launch} (hl : l.stackTraces = false) (fu : Nat) {K28 : Nat → Nat → Nat → Nat → Int32 → Mem → Option Unit} (hK28 : ∀ (v1 : Nat) (v2 : Nat) (v3 : Nat) (v4 : Nat) (v5 : Int32) (S : Mem) (k n : Nat), k + 2 * fu ≤ 600128 → n + 12 * fu ≤ 7301098 → K28 v1 v2 v3 v4 v5 S = some () → Run g l uL_law lawQ 28 [(0, .ref g.2.2.2.1), (1, .ref v1), (2, .ref v2), (3, .ref v3), (4, .ref v4), (5, .int v5)] [] k n S) : ∀ (v1 : Nat) (v2 : Nat) (v3 : Nat) (v4 : Nat) (v5 : Int32) (S : Mem) (k n : Nat), k + 2 + 2 * fu ≤ 600128 → n + 12 + 12 * fu ≤ 7301098 → F_L_law_J592 g K28 v1 v2 v3 v4 v5 S = some () → Run g l uL_law lawQ 592 [(0, .ref g.2.2.2.1), (1, .ref v1), (2, .ref v2), (3, .ref v3), (4, .ref v4), (5, .int v5)] [] k n S := by
  intro v1 v2 v3 v4 v5 S k n q1 q2 h
  unfold F_L_law_J592 at h
  refine r_aload_n dL_law_592 rfl 1 rfl ?_
  refine r_aload_n dL_law_593 rfl 3 rfl ?_
  obtain ⟨t172, S173, h0, h⟩ := bd2_s h
  refine r_invT (As := [.ref v1, .ref v3]) (st := []) dL_law_594 ltL_115 ⟨by decide, by decide, by show k + 1 ≤ 600128; omega, by show n + 6 ≤ 7301098; omega, rfl, fun q => by cases q⟩ (Nat.le_of_ble_eq_true rfl) rfl rfl (T_L_add hl h0) ?_
  refine r_istore (lv' := [(6, .int t172), (0, .ref g.2.2.2.1), (1, .ref v1), (2, .ref v2), (3, .ref v3), (4, .ref v4), (5, .int v5)]) dL_law_597 (by decide) rfl ?_
  refine r_aload_n dL_law_599 rfl 3 rfl ?_
  obtain ⟨z174, hk, h⟩ := bd h
  obtain ⟨t175, S176, h0, h⟩ := bd2_s h
  refine r_invV (As := []) (st := []) dL_law_600 lvL_118 ⟨by decide, by decide, by show k + 1 + 0 ≤ 600128; omega, by show n + 6 + 0 ≤ 7301098; omega, rfl, fun q => by cases q⟩ (Nat.le_of_ble_eq_true rfl) rfl rfl (pk_ok hk) (T_X6_add hl h0) ?_
  refine r_istore (lv' := [(7, .int t175), (6, .int t172), (0, .ref g.2.2.2.1), (1, .ref v1), (2, .ref v2), (3, .ref v3), (4, .ref v4), (5, .int v5)]) dL_law_603 (by decide) rfl ?_
  refine r_aload_n dL_law_605 rfl 4 rfl ?_
  obtain ⟨z177, hk, h⟩ := bd h
  obtain ⟨t178, S179, h0, h⟩ := bd2_s h
  refine r_invV (As := []) (st := []) dL_law_606 lvL_94 ⟨by decide, by decide, by show k + 1 + 0 + 0 ≤ 600128; omega, by show n + 6 + 0 + 0 ≤ 7301098; omega, rfl, fun q => by cases q⟩ (Nat.le_of_ble_eq_true rfl) rfl rfl (pk_ok hk) (T_X6_thrown hl h0) ?_
  refine r_iload dL_law_609 1 rfl ?_
  refine r_icmp_eq (tgt := 616) dL_law_611 (by decide) (fun c180 => ?_) (fun c180 => ?_)
  · rw [if_pos c180] at h
    refine r_iload dL_law_616 1 rfl ?_
    refine r_if_ne (tgt := 633) dL_law_618 (by decide) (fun c181 => ?_) (fun c181 => ?_)
    · rw [if_neg c181] at h
      refine r_widen (k' := k + 2) (n' := n + 12) rfl (by show k + 1 + 0 + 0 ≤ k + 2; omega) (by show n + 6 + 0 + 0 ≤ n + 12; omega) ?_
      refine r_sub [2, 3, 4, 5, 6, 7] rfl ?_
      exact T_L_law_J633 hl fu hK28 v1 v2 v3 v4 v5 S179 (k + 2) (n + 12) (by omega) (by omega) h
    · rw [if_pos c181] at h
      refine r_aload_n dL_law_621 rfl 5 rfl ?_
      refine r_iconst (v := (0 : Int32)) dL_law_622 (by decide) ?_
      obtain ⟨t182, h0, h⟩ := bd h
      refine q_laload h0 dL_law_623 ?_
      refine r_iload dL_law_624 0 rfl ?_
      refine r_i2l dL_law_626 ?_
      refine r_lcmp dL_law_627 ?_
      refine r_if_eq (tgt := 633) dL_law_628 (by decide) (fun c183 => ?_) (fun c183 => ?_)
      · rw [if_pos c183] at h
        refine r_widen (k' := k + 2) (n' := n + 12) rfl (by show k + 1 + 0 + 0 ≤ k + 2; omega) (by show n + 6 + 0 + 0 ≤ n + 12; omega) ?_
        refine r_sub [2, 3, 4, 5, 6, 7] rfl ?_
        exact T_L_law_J633 hl fu hK28 v1 v2 v3 v4 v5 S179 (k + 2) (n + 12) (by omega) (by omega) h
      · rw [if_neg c183] at h
        refine r_iconst (v := (0 : Int32)) dL_law_631 (by decide) ?_
        cases h
  · rw [if_neg c180] at h
    refine r_iconst (v := (0 : Int32)) dL_law_614 (by decide) ?_
    cases h

def F_L_law_J532 (g : GG) (K28 : Nat → Nat → Nat → Nat → Int32 → Mem → Option Unit) (v1 : Nat) (v2 : Nat) (v3 : Nat) (v4 : Nat) (v5 : Int32) (S : Mem) : Option Unit :=
    (ptX g (v5 + (1 : Int32))).bind fun t184 =>
    (ptX g (v5 + (2 : Int32))).bind fun t185 =>
    (ptX g (v5 + (3 : Int32))).bind fun t186 =>
    bd2 (F_L_likelihood v1 t184 t185 t186 S) fun t187 S188 =>
    (ptX g (v5 + (1 : Int32))).bind fun t189 =>
    (ptX g (v5 + (2 : Int32))).bind fun t190 =>
    (ptX g (v5 + (3 : Int32))).bind fun t191 =>
    (pk 6 S188 v2).bind fun _ =>
    (F_X6_likelihood v2 t189 t190 t191 S188).bind fun S194 =>
    (pk 6 S194 v2).bind fun _ =>
    bd2 (F_X6_thrown v2 S194) fun t196 S197 =>
    if t196 = t187 then
      F_L_law_J1331 g K28 v1 v2 v3 v4 v5 S197
    else
      none
set_option maxRecDepth 100000 in
theorem T_L_law_J532 {g : GG} {l : Launch} (hl : l.stackTraces = false) (fu : Nat) {K28 : Nat → Nat → Nat → Nat → Int32 → Mem → Option Unit} (hK28 : ∀ (v1 : Nat) (v2 : Nat) (v3 : Nat) (v4 : Nat) (v5 : Int32) (S : Mem) (k n : Nat), k + 2 * fu ≤ 600128 → n + 12 * fu ≤ 7301098 → K28 v1 v2 v3 v4 v5 S = some () → Run g l uL_law lawQ 28 [(0, .ref g.2.2.2.1), (1, .ref v1), (2, .ref v2), (3, .ref v3), (4, .ref v4), (5, .int v5)] [] k n S) : ∀ (v1 : Nat) (v2 : Nat) (v3 : Nat) (v4 : Nat) (v5 : Int32) (S : Mem) (k n : Nat), k + 2 + 2 * fu ≤ 600128 → n + 12 + 12 * fu ≤ 7301098 → F_L_law_J532 g K28 v1 v2 v3 v4 v5 S = some () → Run g l uL_law lawQ 532 [(0, .ref g.2.2.2.1), (1, .ref v1), (2, .ref v2), (3, .ref v3), (4, .ref v4), (5, .int v5)] [] k n S := by
  intro v1 v2 v3 v4 v5 S k n q1 q2 h
  unfold F_L_law_J532 at h
  refine r_aload_n dL_law_532 rfl 1 rfl ?_
  refine r_aload_n dL_law_533 rfl 0 rfl ?_
  refine r_iload dL_law_534 5 rfl ?_
  refine r_iconst (v := (1 : Int32)) dL_law_536 (by decide) ?_
  refine r_iadd dL_law_537 ?_
  obtain ⟨t184, h0, h⟩ := bd h
  refine q_script h0 dL_law_538 ?_
  refine r_aload_n dL_law_539 rfl 0 rfl ?_
  refine r_iload dL_law_540 5 rfl ?_
  refine r_iconst (v := (2 : Int32)) dL_law_542 (by decide) ?_
  refine r_iadd dL_law_543 ?_
  obtain ⟨t185, h0, h⟩ := bd h
  refine q_script h0 dL_law_544 ?_
  refine r_aload_n dL_law_545 rfl 0 rfl ?_
  refine r_iload dL_law_546 5 rfl ?_
  refine r_iconst (v := (3 : Int32)) dL_law_548 (by decide) ?_
  refine r_iadd dL_law_549 ?_
  obtain ⟨t186, h0, h⟩ := bd h
  refine q_script h0 dL_law_550 ?_
  obtain ⟨t187, S188, h0, h⟩ := bd2_s h
  refine r_invT (As := [.ref v1, .int t184, .int t185, .int t186]) (st := []) dL_law_551 ltL_112 ⟨by decide, by decide, by show k + 1 ≤ 600128; omega, by show n + 6 ≤ 7301098; omega, rfl, fun q => by cases q⟩ (Nat.le_of_ble_eq_true rfl) rfl rfl (T_L_likelihood hl h0) ?_
  refine r_istore (lv' := [(6, .int t187), (0, .ref g.2.2.2.1), (1, .ref v1), (2, .ref v2), (3, .ref v3), (4, .ref v4), (5, .int v5)]) dL_law_554 (by decide) rfl ?_
  refine r_aload_n dL_law_556 rfl 3 rfl ?_
  refine r_aload_n dL_law_557 rfl 1 rfl ?_
  refine r_iload dL_law_558 6 rfl ?_
  refine r_iconst (v := (1 : Int32)) dL_law_560 (by decide) ?_
  refine r_iadd dL_law_561 ?_
  obtain ⟨t189, h0, h⟩ := bd h
  refine q_script h0 dL_law_562 ?_
  refine r_aload_n dL_law_563 rfl 1 rfl ?_
  refine r_iload dL_law_564 6 rfl ?_
  refine r_iconst (v := (2 : Int32)) dL_law_566 (by decide) ?_
  refine r_iadd dL_law_567 ?_
  obtain ⟨t190, h0, h⟩ := bd h
  refine q_script h0 dL_law_568 ?_
  refine r_aload_n dL_law_569 rfl 1 rfl ?_
  refine r_iload dL_law_570 6 rfl ?_
  refine r_iconst (v := (3 : Int32)) dL_law_572 (by decide) ?_
  refine r_iadd dL_law_573 ?_
  obtain ⟨t191, h0, h⟩ := bd h
  refine q_script h0 dL_law_574 ?_
  obtain ⟨z192, hk, h⟩ := bd h
  obtain ⟨S194, h0, h⟩ := bd h
  refine r_invV (As := [.int t189, .int t190, .int t191]) (st := []) dL_law_575 lvL_114 ⟨by decide, by decide, by show k + 1 + 0 ≤ 600128; omega, by show n + 6 + 0 ≤ 7301098; omega, rfl, fun q => by cases q⟩ (Nat.le_of_ble_eq_true rfl) rfl rfl (pk_ok hk) (T_X6_likelihood hl h0) ?_
  refine r_aload_n dL_law_578 rfl 3 rfl ?_
  obtain ⟨z195, hk, h⟩ := bd h
  obtain ⟨t196, S197, h0, h⟩ := bd2_s h
  refine r_invV (As := []) (st := []) dL_law_579 lvL_94 ⟨by decide, by decide, by show k + 1 + 0 + 0 ≤ 600128; omega, by show n + 6 + 0 + 0 ≤ 7301098; omega, rfl, fun q => by cases q⟩ (Nat.le_of_ble_eq_true rfl) rfl rfl (pk_ok hk) (T_X6_thrown hl h0) ?_
  refine r_iload dL_law_582 0 rfl ?_
  refine r_icmp_eq (tgt := 589) dL_law_584 (by decide) (fun c198 => ?_) (fun c198 => ?_)
  · rw [if_pos c198] at h
    refine r_goto (tgt := 1331) dL_law_589 (by decide) ?_
    refine r_widen (k' := k + 2) (n' := n + 12) rfl (by show k + 1 + 0 + 0 ≤ k + 2; omega) (by show n + 6 + 0 + 0 ≤ n + 12; omega) ?_
    refine r_sub [1, 2, 3, 4, 5, 6] rfl ?_
    exact T_L_law_J1331 hl fu hK28 v1 v2 v3 v4 v5 S197 (k + 2) (n + 12) (by omega) (by omega) h
  · rw [if_neg c198] at h
    refine r_iconst (v := (0 : Int32)) dL_law_587 (by decide) ?_
    cases h

def F_L_law_J515 (g : GG) (K28 : Nat → Nat → Nat → Nat → Int32 → Mem → Option Unit) (v1 : Nat) (v2 : Nat) (v3 : Nat) (v4 : Nat) (v5 : Int32) (v6 : Int32) (s0 : Nat) (s1 : Int32) (s2 : Int32) (s3 : Int32) (s4 : Int32) (S : Mem) : Option Unit :=
    (pk 6 S s0).bind fun _ =>
    (F_X6_genotype s0 s1 s2 s3 s4 S).bind fun S201 =>
    (pk 6 S201 v2).bind fun _ =>
    bd2 (F_X6_thrown v2 S201) fun t203 S204 =>
    if t203 = v6 then
      F_L_law_J1331 g K28 v1 v2 v3 v4 v5 S204
    else
      none
set_option maxRecDepth 100000 in
theorem T_L_law_J515 {g : GG} {l : Launch} (hl : l.stackTraces = false) (fu : Nat) {K28 : Nat → Nat → Nat → Nat → Int32 → Mem → Option Unit} (hK28 : ∀ (v1 : Nat) (v2 : Nat) (v3 : Nat) (v4 : Nat) (v5 : Int32) (S : Mem) (k n : Nat), k + 2 * fu ≤ 600128 → n + 12 * fu ≤ 7301098 → K28 v1 v2 v3 v4 v5 S = some () → Run g l uL_law lawQ 28 [(0, .ref g.2.2.2.1), (1, .ref v1), (2, .ref v2), (3, .ref v3), (4, .ref v4), (5, .int v5)] [] k n S) : ∀ (v1 : Nat) (v2 : Nat) (v3 : Nat) (v4 : Nat) (v5 : Int32) (v6 : Int32) (s0 : Nat) (s1 : Int32) (s2 : Int32) (s3 : Int32) (s4 : Int32) (S : Mem) (k n : Nat), k + 2 * fu ≤ 600128 → n + 12 * fu ≤ 7301098 → F_L_law_J515 g K28 v1 v2 v3 v4 v5 v6 s0 s1 s2 s3 s4 S = some () → Run g l uL_law lawQ 515 [(0, .ref g.2.2.2.1), (1, .ref v1), (2, .ref v2), (3, .ref v3), (4, .ref v4), (5, .int v5), (6, .int v6)] [.int s4, .int s3, .int s2, .int s1, .ref s0] k n S := by
  intro v1 v2 v3 v4 v5 v6 s0 s1 s2 s3 s4 S k n q1 q2 h
  unfold F_L_law_J515 at h
  obtain ⟨z199, hk, h⟩ := bd h
  obtain ⟨S201, h0, h⟩ := bd h
  refine r_invV (As := [.int s1, .int s2, .int s3, .int s4]) (st := []) dL_law_515 lvL_111 ⟨by decide, by decide, by show k + 0 ≤ 600128; omega, by show n + 0 ≤ 7301098; omega, rfl, fun q => by cases q⟩ (Nat.le_of_ble_eq_true rfl) rfl rfl (pk_ok hk) (T_X6_genotype hl h0) ?_
  refine r_aload_n dL_law_518 rfl 2 rfl ?_
  obtain ⟨z202, hk, h⟩ := bd h
  obtain ⟨t203, S204, h0, h⟩ := bd2_s h
  refine r_invV (As := []) (st := []) dL_law_519 lvL_94 ⟨by decide, by decide, by show k + 0 + 0 ≤ 600128; omega, by show n + 0 + 0 ≤ 7301098; omega, rfl, fun q => by cases q⟩ (Nat.le_of_ble_eq_true rfl) rfl rfl (pk_ok hk) (T_X6_thrown hl h0) ?_
  refine r_iload dL_law_522 6 rfl ?_
  refine r_icmp_eq (tgt := 529) dL_law_524 (by decide) (fun c205 => ?_) (fun c205 => ?_)
  · rw [if_pos c205] at h
    refine r_goto (tgt := 1331) dL_law_529 (by decide) ?_
    refine r_sub [0, 1, 2, 3, 4, 5] rfl ?_
    exact T_L_law_J1331 hl fu hK28 v1 v2 v3 v4 v5 S204 k n (by omega) (by omega) h
  · rw [if_neg c205] at h
    refine r_iconst (v := (0 : Int32)) dL_law_527 (by decide) ?_
    cases h

def F_L_law_J477 (g : GG) (K28 : Nat → Nat → Nat → Nat → Int32 → Mem → Option Unit) (v1 : Nat) (v2 : Nat) (v3 : Nat) (v4 : Nat) (v5 : Int32) (s0 : Nat) (s1 : Int32) (s2 : Int32) (s3 : Int32) (s4 : Int32) (S : Mem) : Option Unit :=
    bd2 (F_L_genotype s0 s1 s2 s3 s4 S) fun t206 S207 =>
    (ptX g (v5 + (1 : Int32))).bind fun t208 =>
    (ptX g (v5 + (2 : Int32))).bind fun t209 =>
    (ptX g (v5 + (3 : Int32))).bind fun t210 =>
    (ptX g (v5 + (4 : Int32))).bind fun t211 =>
    if t211 = 0 then
      F_L_law_J515 g K28 v1 v2 v3 v4 v5 t206 v2 t208 t209 t210 (0 : Int32) S207
    else
      F_L_law_J515 g K28 v1 v2 v3 v4 v5 t206 v2 t208 t209 t210 (1 : Int32) S207
set_option maxRecDepth 100000 in
theorem T_L_law_J477 {g : GG} {l : Launch} (hl : l.stackTraces = false) (fu : Nat) {K28 : Nat → Nat → Nat → Nat → Int32 → Mem → Option Unit} (hK28 : ∀ (v1 : Nat) (v2 : Nat) (v3 : Nat) (v4 : Nat) (v5 : Int32) (S : Mem) (k n : Nat), k + 2 * fu ≤ 600128 → n + 12 * fu ≤ 7301098 → K28 v1 v2 v3 v4 v5 S = some () → Run g l uL_law lawQ 28 [(0, .ref g.2.2.2.1), (1, .ref v1), (2, .ref v2), (3, .ref v3), (4, .ref v4), (5, .int v5)] [] k n S) : ∀ (v1 : Nat) (v2 : Nat) (v3 : Nat) (v4 : Nat) (v5 : Int32) (s0 : Nat) (s1 : Int32) (s2 : Int32) (s3 : Int32) (s4 : Int32) (S : Mem) (k n : Nat), k + 2 + 2 * fu ≤ 600128 → n + 12 + 12 * fu ≤ 7301098 → F_L_law_J477 g K28 v1 v2 v3 v4 v5 s0 s1 s2 s3 s4 S = some () → Run g l uL_law lawQ 477 [(0, .ref g.2.2.2.1), (1, .ref v1), (2, .ref v2), (3, .ref v3), (4, .ref v4), (5, .int v5)] [.int s4, .int s3, .int s2, .int s1, .ref s0] k n S := by
  intro v1 v2 v3 v4 v5 s0 s1 s2 s3 s4 S k n q1 q2 h
  unfold F_L_law_J477 at h
  obtain ⟨t206, S207, h0, h⟩ := bd2_s h
  refine r_invT (As := [.ref s0, .int s1, .int s2, .int s3, .int s4]) (st := []) dL_law_477 ltL_108 ⟨by decide, by decide, by show k + 1 ≤ 600128; omega, by show n + 6 ≤ 7301098; omega, rfl, fun q => by cases q⟩ (Nat.le_of_ble_eq_true rfl) rfl rfl (T_L_genotype hl h0) ?_
  refine r_istore (lv' := [(6, .int t206), (0, .ref g.2.2.2.1), (1, .ref v1), (2, .ref v2), (3, .ref v3), (4, .ref v4), (5, .int v5)]) dL_law_480 (by decide) rfl ?_
  refine r_aload_n dL_law_482 rfl 3 rfl ?_
  refine r_aload_n dL_law_483 rfl 1 rfl ?_
  refine r_iload dL_law_484 6 rfl ?_
  refine r_iconst (v := (1 : Int32)) dL_law_486 (by decide) ?_
  refine r_iadd dL_law_487 ?_
  obtain ⟨t208, h0, h⟩ := bd h
  refine q_script h0 dL_law_488 ?_
  refine r_aload_n dL_law_489 rfl 1 rfl ?_
  refine r_iload dL_law_490 6 rfl ?_
  refine r_iconst (v := (2 : Int32)) dL_law_492 (by decide) ?_
  refine r_iadd dL_law_493 ?_
  obtain ⟨t209, h0, h⟩ := bd h
  refine q_script h0 dL_law_494 ?_
  refine r_aload_n dL_law_495 rfl 1 rfl ?_
  refine r_iload dL_law_496 6 rfl ?_
  refine r_iconst (v := (3 : Int32)) dL_law_498 (by decide) ?_
  refine r_iadd dL_law_499 ?_
  obtain ⟨t210, h0, h⟩ := bd h
  refine q_script h0 dL_law_500 ?_
  refine r_aload_n dL_law_501 rfl 1 rfl ?_
  refine r_iload dL_law_502 6 rfl ?_
  refine r_iconst (v := (4 : Int32)) dL_law_504 (by decide) ?_
  refine r_iadd dL_law_505 ?_
  obtain ⟨t211, h0, h⟩ := bd h
  refine q_script h0 dL_law_506 ?_
  refine r_if_eq (tgt := 514) dL_law_507 (by decide) (fun c212 => ?_) (fun c212 => ?_)
  · rw [if_pos c212] at h
    refine r_iconst (v := (0 : Int32)) dL_law_514 (by decide) ?_
    refine r_widen (k' := k + 2) (n' := n + 12) rfl (by show k + 1 ≤ k + 2; omega) (by show n + 6 ≤ n + 12; omega) ?_
    refine r_sub [1, 2, 3, 4, 5, 6, 0] rfl ?_
    exact T_L_law_J515 hl fu hK28 v1 v2 v3 v4 v5 t206 v2 t208 t209 t210 (0 : Int32) S207 (k + 2) (n + 12) (by omega) (by omega) h
  · rw [if_neg c212] at h
    refine r_iconst (v := (1 : Int32)) dL_law_510 (by decide) ?_
    refine r_goto (tgt := 515) dL_law_511 (by decide) ?_
    refine r_widen (k' := k + 2) (n' := n + 12) rfl (by show k + 1 ≤ k + 2; omega) (by show n + 6 ≤ n + 12; omega) ?_
    refine r_sub [1, 2, 3, 4, 5, 6, 0] rfl ?_
    exact T_L_law_J515 hl fu hK28 v1 v2 v3 v4 v5 t206 v2 t208 t209 t210 (1 : Int32) S207 (k + 2) (n + 12) (by omega) (by omega) h

def F_L_law_J444 (g : GG) (K28 : Nat → Nat → Nat → Nat → Int32 → Mem → Option Unit) (v1 : Nat) (v2 : Nat) (v3 : Nat) (v4 : Nat) (v5 : Int32) (S : Mem) : Option Unit :=
    (ptX g (v5 + (1 : Int32))).bind fun t213 =>
    (ptX g (v5 + (2 : Int32))).bind fun t214 =>
    (ptX g (v5 + (3 : Int32))).bind fun t215 =>
    (ptX g (v5 + (4 : Int32))).bind fun t216 =>
    if t216 = 0 then
      F_L_law_J477 g K28 v1 v2 v3 v4 v5 v1 t213 t214 t215 (0 : Int32) S
    else
      F_L_law_J477 g K28 v1 v2 v3 v4 v5 v1 t213 t214 t215 (1 : Int32) S
set_option maxRecDepth 100000 in
theorem T_L_law_J444 {g : GG} {l : Launch} (hl : l.stackTraces = false) (fu : Nat) {K28 : Nat → Nat → Nat → Nat → Int32 → Mem → Option Unit} (hK28 : ∀ (v1 : Nat) (v2 : Nat) (v3 : Nat) (v4 : Nat) (v5 : Int32) (S : Mem) (k n : Nat), k + 2 * fu ≤ 600128 → n + 12 * fu ≤ 7301098 → K28 v1 v2 v3 v4 v5 S = some () → Run g l uL_law lawQ 28 [(0, .ref g.2.2.2.1), (1, .ref v1), (2, .ref v2), (3, .ref v3), (4, .ref v4), (5, .int v5)] [] k n S) : ∀ (v1 : Nat) (v2 : Nat) (v3 : Nat) (v4 : Nat) (v5 : Int32) (S : Mem) (k n : Nat), k + 2 + 2 * fu ≤ 600128 → n + 12 + 12 * fu ≤ 7301098 → F_L_law_J444 g K28 v1 v2 v3 v4 v5 S = some () → Run g l uL_law lawQ 444 [(0, .ref g.2.2.2.1), (1, .ref v1), (2, .ref v2), (3, .ref v3), (4, .ref v4), (5, .int v5)] [] k n S := by
  intro v1 v2 v3 v4 v5 S k n q1 q2 h
  unfold F_L_law_J444 at h
  refine r_aload_n dL_law_444 rfl 1 rfl ?_
  refine r_aload_n dL_law_445 rfl 0 rfl ?_
  refine r_iload dL_law_446 5 rfl ?_
  refine r_iconst (v := (1 : Int32)) dL_law_448 (by decide) ?_
  refine r_iadd dL_law_449 ?_
  obtain ⟨t213, h0, h⟩ := bd h
  refine q_script h0 dL_law_450 ?_
  refine r_aload_n dL_law_451 rfl 0 rfl ?_
  refine r_iload dL_law_452 5 rfl ?_
  refine r_iconst (v := (2 : Int32)) dL_law_454 (by decide) ?_
  refine r_iadd dL_law_455 ?_
  obtain ⟨t214, h0, h⟩ := bd h
  refine q_script h0 dL_law_456 ?_
  refine r_aload_n dL_law_457 rfl 0 rfl ?_
  refine r_iload dL_law_458 5 rfl ?_
  refine r_iconst (v := (3 : Int32)) dL_law_460 (by decide) ?_
  refine r_iadd dL_law_461 ?_
  obtain ⟨t215, h0, h⟩ := bd h
  refine q_script h0 dL_law_462 ?_
  refine r_aload_n dL_law_463 rfl 0 rfl ?_
  refine r_iload dL_law_464 5 rfl ?_
  refine r_iconst (v := (4 : Int32)) dL_law_466 (by decide) ?_
  refine r_iadd dL_law_467 ?_
  obtain ⟨t216, h0, h⟩ := bd h
  refine q_script h0 dL_law_468 ?_
  refine r_if_eq (tgt := 476) dL_law_469 (by decide) (fun c217 => ?_) (fun c217 => ?_)
  · rw [if_pos c217] at h
    refine r_iconst (v := (0 : Int32)) dL_law_476 (by decide) ?_
    exact T_L_law_J477 hl fu hK28 v1 v2 v3 v4 v5 v1 t213 t214 t215 (0 : Int32) S k n (by omega) (by omega) h
  · rw [if_neg c217] at h
    refine r_iconst (v := (1 : Int32)) dL_law_472 (by decide) ?_
    refine r_goto (tgt := 477) dL_law_473 (by decide) ?_
    exact T_L_law_J477 hl fu hK28 v1 v2 v3 v4 v5 v1 t213 t214 t215 (1 : Int32) S k n (by omega) (by omega) h

def F_L_law_J384 (g : GG) (K28 : Nat → Nat → Nat → Nat → Int32 → Mem → Option Unit) (v1 : Nat) (v2 : Nat) (v3 : Nat) (v4 : Nat) (v5 : Int32) (S : Mem) : Option Unit :=
    (ptX g (v5 + (1 : Int32))).bind fun t218 =>
    (ptX g (v5 + (2 : Int32))).bind fun t219 =>
    (ptX g (v5 + (3 : Int32))).bind fun t220 =>
    bd2 (F_L_depth v1 t218 t219 t220 S) fun t221 S222 =>
    (ptX g (v5 + (1 : Int32))).bind fun t223 =>
    (ptX g (v5 + (2 : Int32))).bind fun t224 =>
    (ptX g (v5 + (3 : Int32))).bind fun t225 =>
    (pk 6 S222 v2).bind fun _ =>
    (F_X6_depth v2 t223 t224 t225 S222).bind fun S228 =>
    (pk 6 S228 v2).bind fun _ =>
    bd2 (F_X6_thrown v2 S228) fun t230 S231 =>
    if t230 = t221 then
      F_L_law_J1331 g K28 v1 v2 v3 v4 v5 S231
    else
      none
set_option maxRecDepth 100000 in
theorem T_L_law_J384 {g : GG} {l : Launch} (hl : l.stackTraces = false) (fu : Nat) {K28 : Nat → Nat → Nat → Nat → Int32 → Mem → Option Unit} (hK28 : ∀ (v1 : Nat) (v2 : Nat) (v3 : Nat) (v4 : Nat) (v5 : Int32) (S : Mem) (k n : Nat), k + 2 * fu ≤ 600128 → n + 12 * fu ≤ 7301098 → K28 v1 v2 v3 v4 v5 S = some () → Run g l uL_law lawQ 28 [(0, .ref g.2.2.2.1), (1, .ref v1), (2, .ref v2), (3, .ref v3), (4, .ref v4), (5, .int v5)] [] k n S) : ∀ (v1 : Nat) (v2 : Nat) (v3 : Nat) (v4 : Nat) (v5 : Int32) (S : Mem) (k n : Nat), k + 2 + 2 * fu ≤ 600128 → n + 12 + 12 * fu ≤ 7301098 → F_L_law_J384 g K28 v1 v2 v3 v4 v5 S = some () → Run g l uL_law lawQ 384 [(0, .ref g.2.2.2.1), (1, .ref v1), (2, .ref v2), (3, .ref v3), (4, .ref v4), (5, .int v5)] [] k n S := by
  intro v1 v2 v3 v4 v5 S k n q1 q2 h
  unfold F_L_law_J384 at h
  refine r_aload_n dL_law_384 rfl 1 rfl ?_
  refine r_aload_n dL_law_385 rfl 0 rfl ?_
  refine r_iload dL_law_386 5 rfl ?_
  refine r_iconst (v := (1 : Int32)) dL_law_388 (by decide) ?_
  refine r_iadd dL_law_389 ?_
  obtain ⟨t218, h0, h⟩ := bd h
  refine q_script h0 dL_law_390 ?_
  refine r_aload_n dL_law_391 rfl 0 rfl ?_
  refine r_iload dL_law_392 5 rfl ?_
  refine r_iconst (v := (2 : Int32)) dL_law_394 (by decide) ?_
  refine r_iadd dL_law_395 ?_
  obtain ⟨t219, h0, h⟩ := bd h
  refine q_script h0 dL_law_396 ?_
  refine r_aload_n dL_law_397 rfl 0 rfl ?_
  refine r_iload dL_law_398 5 rfl ?_
  refine r_iconst (v := (3 : Int32)) dL_law_400 (by decide) ?_
  refine r_iadd dL_law_401 ?_
  obtain ⟨t220, h0, h⟩ := bd h
  refine q_script h0 dL_law_402 ?_
  obtain ⟨t221, S222, h0, h⟩ := bd2_s h
  refine r_invT (As := [.ref v1, .int t218, .int t219, .int t220]) (st := []) dL_law_403 ltL_104 ⟨by decide, by decide, by show k + 1 ≤ 600128; omega, by show n + 6 ≤ 7301098; omega, rfl, fun q => by cases q⟩ (Nat.le_of_ble_eq_true rfl) rfl rfl (T_L_depth hl h0) ?_
  refine r_istore (lv' := [(6, .int t221), (0, .ref g.2.2.2.1), (1, .ref v1), (2, .ref v2), (3, .ref v3), (4, .ref v4), (5, .int v5)]) dL_law_406 (by decide) rfl ?_
  refine r_aload_n dL_law_408 rfl 3 rfl ?_
  refine r_aload_n dL_law_409 rfl 1 rfl ?_
  refine r_iload dL_law_410 6 rfl ?_
  refine r_iconst (v := (1 : Int32)) dL_law_412 (by decide) ?_
  refine r_iadd dL_law_413 ?_
  obtain ⟨t223, h0, h⟩ := bd h
  refine q_script h0 dL_law_414 ?_
  refine r_aload_n dL_law_415 rfl 1 rfl ?_
  refine r_iload dL_law_416 6 rfl ?_
  refine r_iconst (v := (2 : Int32)) dL_law_418 (by decide) ?_
  refine r_iadd dL_law_419 ?_
  obtain ⟨t224, h0, h⟩ := bd h
  refine q_script h0 dL_law_420 ?_
  refine r_aload_n dL_law_421 rfl 1 rfl ?_
  refine r_iload dL_law_422 6 rfl ?_
  refine r_iconst (v := (3 : Int32)) dL_law_424 (by decide) ?_
  refine r_iadd dL_law_425 ?_
  obtain ⟨t225, h0, h⟩ := bd h
  refine q_script h0 dL_law_426 ?_
  obtain ⟨z226, hk, h⟩ := bd h
  obtain ⟨S228, h0, h⟩ := bd h
  refine r_invV (As := [.int t223, .int t224, .int t225]) (st := []) dL_law_427 lvL_107 ⟨by decide, by decide, by show k + 1 + 0 ≤ 600128; omega, by show n + 6 + 0 ≤ 7301098; omega, rfl, fun q => by cases q⟩ (Nat.le_of_ble_eq_true rfl) rfl rfl (pk_ok hk) (T_X6_depth hl h0) ?_
  refine r_aload_n dL_law_430 rfl 3 rfl ?_
  obtain ⟨z229, hk, h⟩ := bd h
  obtain ⟨t230, S231, h0, h⟩ := bd2_s h
  refine r_invV (As := []) (st := []) dL_law_431 lvL_94 ⟨by decide, by decide, by show k + 1 + 0 + 0 ≤ 600128; omega, by show n + 6 + 0 + 0 ≤ 7301098; omega, rfl, fun q => by cases q⟩ (Nat.le_of_ble_eq_true rfl) rfl rfl (pk_ok hk) (T_X6_thrown hl h0) ?_
  refine r_iload dL_law_434 0 rfl ?_
  refine r_icmp_eq (tgt := 441) dL_law_436 (by decide) (fun c232 => ?_) (fun c232 => ?_)
  · rw [if_pos c232] at h
    refine r_goto (tgt := 1331) dL_law_441 (by decide) ?_
    refine r_widen (k' := k + 2) (n' := n + 12) rfl (by show k + 1 + 0 + 0 ≤ k + 2; omega) (by show n + 6 + 0 + 0 ≤ n + 12; omega) ?_
    refine r_sub [1, 2, 3, 4, 5, 6] rfl ?_
    exact T_L_law_J1331 hl fu hK28 v1 v2 v3 v4 v5 S231 (k + 2) (n + 12) (by omega) (by omega) h
  · rw [if_neg c232] at h
    refine r_iconst (v := (0 : Int32)) dL_law_439 (by decide) ?_
    cases h

def F_L_law_J381 (g : GG) (K28 : Nat → Nat → Nat → Nat → Int32 → Mem → Option Unit) (v1 : Nat) (v2 : Nat) (v3 : Nat) (v4 : Nat) (v5 : Int32) (S : Mem) : Option Unit :=
    F_L_law_J1331 g K28 v1 v2 v3 v4 v5 S
set_option maxRecDepth 100000 in
theorem T_L_law_J381 {g : GG} {l : Launch} (hl : l.stackTraces = false) (fu : Nat) {K28 : Nat → Nat → Nat → Nat → Int32 → Mem → Option Unit} (hK28 : ∀ (v1 : Nat) (v2 : Nat) (v3 : Nat) (v4 : Nat) (v5 : Int32) (S : Mem) (k n : Nat), k + 2 * fu ≤ 600128 → n + 12 * fu ≤ 7301098 → K28 v1 v2 v3 v4 v5 S = some () → Run g l uL_law lawQ 28 [(0, .ref g.2.2.2.1), (1, .ref v1), (2, .ref v2), (3, .ref v3), (4, .ref v4), (5, .int v5)] [] k n S) : ∀ (v1 : Nat) (v2 : Nat) (v3 : Nat) (v4 : Nat) (v5 : Int32) (S : Mem) (k n : Nat), k + 2 * fu ≤ 600128 → n + 12 * fu ≤ 7301098 → F_L_law_J381 g K28 v1 v2 v3 v4 v5 S = some () → Run g l uL_law lawQ 381 [(0, .ref g.2.2.2.1), (1, .ref v1), (2, .ref v2), (3, .ref v3), (4, .ref v4), (5, .int v5)] [] k n S := by
  intro v1 v2 v3 v4 v5 S k n q1 q2 h
  unfold F_L_law_J381 at h
  refine r_goto (tgt := 1331) dL_law_381 (by decide) ?_
  exact T_L_law_J1331 hl fu hK28 v1 v2 v3 v4 v5 S k n (by omega) (by omega) h

def F_L_law_J284 (g : GG) (K28 : Nat → Nat → Nat → Nat → Int32 → Mem → Option Unit) (v1 : Nat) (v2 : Nat) (v3 : Nat) (v4 : Nat) (v5 : Int32) (S : Mem) : Option Unit :=
    (ptX g (v5 + (1 : Int32))).bind fun t233 =>
    (ptX g (v5 + (2 : Int32))).bind fun t234 =>
    (ptX g (v5 + (3 : Int32))).bind fun t235 =>
    bd2 (F_L_allele v1 ((t233.toInt64 <<< ((32 : Int32).toInt64 &&& 63)) ||| (t234.toInt64 &&& (4294967295 : Int64))) t235 v3 S) fun t236 S237 =>
    (ptX g (v5 + (1 : Int32))).bind fun t238 =>
    (ptX g (v5 + (2 : Int32))).bind fun t239 =>
    (ptX g (v5 + (3 : Int32))).bind fun t240 =>
    (pk 6 S237 v2).bind fun _ =>
    bd2 (F_X6_allele v2 ((t238.toInt64 <<< ((32 : Int32).toInt64 &&& 63)) ||| (t239.toInt64 &&& (4294967295 : Int64))) t240 S237) fun t242 S243 =>
    (pk 6 S243 v2).bind fun _ =>
    bd2 (F_X6_thrown v2 S243) fun t245 S246 =>
    if t245 = t236 then
      if t236 = 0 then
        (paJ S246 v3 (0 : Int32)).bind fun t249 =>
        if (lg_cmp t249 t242.toInt64) = 0 then
          F_L_law_J381 g K28 v1 v2 v3 v4 v5 S246
        else
          none
      else
        F_L_law_J381 g K28 v1 v2 v3 v4 v5 S246
    else
      none
set_option maxRecDepth 100000 in
theorem T_L_law_J284 {g : GG} {l : Launch} (hl : l.stackTraces = false) (fu : Nat) {K28 : Nat → Nat → Nat → Nat → Int32 → Mem → Option Unit} (hK28 : ∀ (v1 : Nat) (v2 : Nat) (v3 : Nat) (v4 : Nat) (v5 : Int32) (S : Mem) (k n : Nat), k + 2 * fu ≤ 600128 → n + 12 * fu ≤ 7301098 → K28 v1 v2 v3 v4 v5 S = some () → Run g l uL_law lawQ 28 [(0, .ref g.2.2.2.1), (1, .ref v1), (2, .ref v2), (3, .ref v3), (4, .ref v4), (5, .int v5)] [] k n S) : ∀ (v1 : Nat) (v2 : Nat) (v3 : Nat) (v4 : Nat) (v5 : Int32) (S : Mem) (k n : Nat), k + 2 + 2 * fu ≤ 600128 → n + 12 + 12 * fu ≤ 7301098 → F_L_law_J284 g K28 v1 v2 v3 v4 v5 S = some () → Run g l uL_law lawQ 284 [(0, .ref g.2.2.2.1), (1, .ref v1), (2, .ref v2), (3, .ref v3), (4, .ref v4), (5, .int v5)] [] k n S := by
  intro v1 v2 v3 v4 v5 S k n q1 q2 h
  unfold F_L_law_J284 at h
  refine r_aload_n dL_law_284 rfl 1 rfl ?_
  refine r_aload_n dL_law_285 rfl 0 rfl ?_
  refine r_iload dL_law_286 5 rfl ?_
  refine r_iconst (v := (1 : Int32)) dL_law_288 (by decide) ?_
  refine r_iadd dL_law_289 ?_
  obtain ⟨t233, h0, h⟩ := bd h
  refine q_script h0 dL_law_290 ?_
  refine r_i2l dL_law_291 ?_
  refine r_bipush (v := (32 : Int32)) dL_law_292 (by decide) ?_
  refine r_lshl dL_law_294 ?_
  refine r_aload_n dL_law_295 rfl 0 rfl ?_
  refine r_iload dL_law_296 5 rfl ?_
  refine r_iconst (v := (2 : Int32)) dL_law_298 (by decide) ?_
  refine r_iadd dL_law_299 ?_
  obtain ⟨t234, h0, h⟩ := bd h
  refine q_script h0 dL_law_300 ?_
  refine r_i2l dL_law_301 ?_
  refine r_ldc2 dL_law_302 wlL_86 ?_
  refine r_land dL_law_305 ?_
  refine r_lor dL_law_306 ?_
  refine r_aload_n dL_law_307 rfl 0 rfl ?_
  refine r_iload dL_law_308 5 rfl ?_
  refine r_iconst (v := (3 : Int32)) dL_law_310 (by decide) ?_
  refine r_iadd dL_law_311 ?_
  obtain ⟨t235, h0, h⟩ := bd h
  refine q_script h0 dL_law_312 ?_
  refine r_aload_n dL_law_313 rfl 3 rfl ?_
  obtain ⟨t236, S237, h0, h⟩ := bd2_s h
  refine r_invT (As := [.ref v1, .long ((t233.toInt64 <<< ((32 : Int32).toInt64 &&& 63)) ||| (t234.toInt64 &&& (4294967295 : Int64))), .int t235, .ref v3]) (st := []) dL_law_314 ltL_101 ⟨by decide, by decide, by show k + 1 ≤ 600128; omega, by show n + 6 ≤ 7301098; omega, rfl, fun q => by cases q⟩ (Nat.le_of_ble_eq_true rfl) rfl rfl (T_L_allele hl h0) ?_
  refine r_istore (lv' := [(6, .int t236), (0, .ref g.2.2.2.1), (1, .ref v1), (2, .ref v2), (3, .ref v3), (4, .ref v4), (5, .int v5)]) dL_law_317 (by decide) rfl ?_
  refine r_aload_n dL_law_319 rfl 3 rfl ?_
  refine r_aload_n dL_law_320 rfl 1 rfl ?_
  refine r_iload dL_law_321 6 rfl ?_
  refine r_iconst (v := (1 : Int32)) dL_law_323 (by decide) ?_
  refine r_iadd dL_law_324 ?_
  obtain ⟨t238, h0, h⟩ := bd h
  refine q_script h0 dL_law_325 ?_
  refine r_i2l dL_law_326 ?_
  refine r_bipush (v := (32 : Int32)) dL_law_327 (by decide) ?_
  refine r_lshl dL_law_329 ?_
  refine r_aload_n dL_law_330 rfl 1 rfl ?_
  refine r_iload dL_law_331 6 rfl ?_
  refine r_iconst (v := (2 : Int32)) dL_law_333 (by decide) ?_
  refine r_iadd dL_law_334 ?_
  obtain ⟨t239, h0, h⟩ := bd h
  refine q_script h0 dL_law_335 ?_
  refine r_i2l dL_law_336 ?_
  refine r_ldc2 dL_law_337 wlL_86 ?_
  refine r_land dL_law_340 ?_
  refine r_lor dL_law_341 ?_
  refine r_aload_n dL_law_342 rfl 1 rfl ?_
  refine r_iload dL_law_343 6 rfl ?_
  refine r_iconst (v := (3 : Int32)) dL_law_345 (by decide) ?_
  refine r_iadd dL_law_346 ?_
  obtain ⟨t240, h0, h⟩ := bd h
  refine q_script h0 dL_law_347 ?_
  obtain ⟨z241, hk, h⟩ := bd h
  obtain ⟨t242, S243, h0, h⟩ := bd2_s h
  refine r_invV (As := [.long ((t238.toInt64 <<< ((32 : Int32).toInt64 &&& 63)) ||| (t239.toInt64 &&& (4294967295 : Int64))), .int t240]) (st := []) dL_law_348 lvL_103 ⟨by decide, by decide, by show k + 1 + 0 ≤ 600128; omega, by show n + 6 + 0 ≤ 7301098; omega, rfl, fun q => by cases q⟩ (Nat.le_of_ble_eq_true rfl) rfl rfl (pk_ok hk) (T_X6_allele hl h0) ?_
  refine r_istore (lv' := [(7, .int t242), (6, .int t236), (0, .ref g.2.2.2.1), (1, .ref v1), (2, .ref v2), (3, .ref v3), (4, .ref v4), (5, .int v5)]) dL_law_351 (by decide) rfl ?_
  refine r_aload_n dL_law_353 rfl 4 rfl ?_
  obtain ⟨z244, hk, h⟩ := bd h
  obtain ⟨t245, S246, h0, h⟩ := bd2_s h
  refine r_invV (As := []) (st := []) dL_law_354 lvL_94 ⟨by decide, by decide, by show k + 1 + 0 + 0 ≤ 600128; omega, by show n + 6 + 0 + 0 ≤ 7301098; omega, rfl, fun q => by cases q⟩ (Nat.le_of_ble_eq_true rfl) rfl rfl (pk_ok hk) (T_X6_thrown hl h0) ?_
  refine r_iload dL_law_357 1 rfl ?_
  refine r_icmp_eq (tgt := 364) dL_law_359 (by decide) (fun c247 => ?_) (fun c247 => ?_)
  · rw [if_pos c247] at h
    refine r_iload dL_law_364 1 rfl ?_
    refine r_if_ne (tgt := 381) dL_law_366 (by decide) (fun c248 => ?_) (fun c248 => ?_)
    · rw [if_neg c248] at h
      refine r_widen (k' := k + 2) (n' := n + 12) rfl (by show k + 1 + 0 + 0 ≤ k + 2; omega) (by show n + 6 + 0 + 0 ≤ n + 12; omega) ?_
      refine r_sub [2, 3, 4, 5, 6, 7] rfl ?_
      exact T_L_law_J381 hl fu hK28 v1 v2 v3 v4 v5 S246 (k + 2) (n + 12) (by omega) (by omega) h
    · rw [if_pos c248] at h
      refine r_aload_n dL_law_369 rfl 5 rfl ?_
      refine r_iconst (v := (0 : Int32)) dL_law_370 (by decide) ?_
      obtain ⟨t249, h0, h⟩ := bd h
      refine q_laload h0 dL_law_371 ?_
      refine r_iload dL_law_372 0 rfl ?_
      refine r_i2l dL_law_374 ?_
      refine r_lcmp dL_law_375 ?_
      refine r_if_eq (tgt := 381) dL_law_376 (by decide) (fun c250 => ?_) (fun c250 => ?_)
      · rw [if_pos c250] at h
        refine r_widen (k' := k + 2) (n' := n + 12) rfl (by show k + 1 + 0 + 0 ≤ k + 2; omega) (by show n + 6 + 0 + 0 ≤ n + 12; omega) ?_
        refine r_sub [2, 3, 4, 5, 6, 7] rfl ?_
        exact T_L_law_J381 hl fu hK28 v1 v2 v3 v4 v5 S246 (k + 2) (n + 12) (by omega) (by omega) h
      · rw [if_neg c250] at h
        refine r_iconst (v := (0 : Int32)) dL_law_379 (by decide) ?_
        cases h
  · rw [if_neg c247] at h
    refine r_iconst (v := (0 : Int32)) dL_law_362 (by decide) ?_
    cases h

def F_L_law_J236 (g : GG) (K28 : Nat → Nat → Nat → Nat → Int32 → Mem → Option Unit) (v1 : Nat) (v2 : Nat) (v3 : Nat) (v4 : Nat) (v5 : Int32) (S : Mem) : Option Unit :=
    (ptX g (v5 + (1 : Int32))).bind fun t251 =>
    (ptX g (v5 + (2 : Int32))).bind fun t252 =>
    bd2 (F_L_draft v1 t251 t252 S) fun t253 S254 =>
    (ptX g (v5 + (1 : Int32))).bind fun t255 =>
    (ptX g (v5 + (2 : Int32))).bind fun t256 =>
    (pk 6 S254 v2).bind fun _ =>
    (F_X6_draft v2 t255 t256 S254).bind fun S259 =>
    (pk 6 S259 v2).bind fun _ =>
    bd2 (F_X6_thrown v2 S259) fun t261 S262 =>
    if t261 = t253 then
      F_L_law_J1331 g K28 v1 v2 v3 v4 v5 S262
    else
      none
set_option maxRecDepth 100000 in
theorem T_L_law_J236 {g : GG} {l : Launch} (hl : l.stackTraces = false) (fu : Nat) {K28 : Nat → Nat → Nat → Nat → Int32 → Mem → Option Unit} (hK28 : ∀ (v1 : Nat) (v2 : Nat) (v3 : Nat) (v4 : Nat) (v5 : Int32) (S : Mem) (k n : Nat), k + 2 * fu ≤ 600128 → n + 12 * fu ≤ 7301098 → K28 v1 v2 v3 v4 v5 S = some () → Run g l uL_law lawQ 28 [(0, .ref g.2.2.2.1), (1, .ref v1), (2, .ref v2), (3, .ref v3), (4, .ref v4), (5, .int v5)] [] k n S) : ∀ (v1 : Nat) (v2 : Nat) (v3 : Nat) (v4 : Nat) (v5 : Int32) (S : Mem) (k n : Nat), k + 2 + 2 * fu ≤ 600128 → n + 12 + 12 * fu ≤ 7301098 → F_L_law_J236 g K28 v1 v2 v3 v4 v5 S = some () → Run g l uL_law lawQ 236 [(0, .ref g.2.2.2.1), (1, .ref v1), (2, .ref v2), (3, .ref v3), (4, .ref v4), (5, .int v5)] [] k n S := by
  intro v1 v2 v3 v4 v5 S k n q1 q2 h
  unfold F_L_law_J236 at h
  refine r_aload_n dL_law_236 rfl 1 rfl ?_
  refine r_aload_n dL_law_237 rfl 0 rfl ?_
  refine r_iload dL_law_238 5 rfl ?_
  refine r_iconst (v := (1 : Int32)) dL_law_240 (by decide) ?_
  refine r_iadd dL_law_241 ?_
  obtain ⟨t251, h0, h⟩ := bd h
  refine q_script h0 dL_law_242 ?_
  refine r_aload_n dL_law_243 rfl 0 rfl ?_
  refine r_iload dL_law_244 5 rfl ?_
  refine r_iconst (v := (2 : Int32)) dL_law_246 (by decide) ?_
  refine r_iadd dL_law_247 ?_
  obtain ⟨t252, h0, h⟩ := bd h
  refine q_script h0 dL_law_248 ?_
  obtain ⟨t253, S254, h0, h⟩ := bd2_s h
  refine r_invT (As := [.ref v1, .int t251, .int t252]) (st := []) dL_law_249 ltL_97 ⟨by decide, by decide, by show k + 1 ≤ 600128; omega, by show n + 6 ≤ 7301098; omega, rfl, fun q => by cases q⟩ (Nat.le_of_ble_eq_true rfl) rfl rfl (T_L_draft hl h0) ?_
  refine r_istore (lv' := [(6, .int t253), (0, .ref g.2.2.2.1), (1, .ref v1), (2, .ref v2), (3, .ref v3), (4, .ref v4), (5, .int v5)]) dL_law_252 (by decide) rfl ?_
  refine r_aload_n dL_law_254 rfl 3 rfl ?_
  refine r_aload_n dL_law_255 rfl 1 rfl ?_
  refine r_iload dL_law_256 6 rfl ?_
  refine r_iconst (v := (1 : Int32)) dL_law_258 (by decide) ?_
  refine r_iadd dL_law_259 ?_
  obtain ⟨t255, h0, h⟩ := bd h
  refine q_script h0 dL_law_260 ?_
  refine r_aload_n dL_law_261 rfl 1 rfl ?_
  refine r_iload dL_law_262 6 rfl ?_
  refine r_iconst (v := (2 : Int32)) dL_law_264 (by decide) ?_
  refine r_iadd dL_law_265 ?_
  obtain ⟨t256, h0, h⟩ := bd h
  refine q_script h0 dL_law_266 ?_
  obtain ⟨z257, hk, h⟩ := bd h
  obtain ⟨S259, h0, h⟩ := bd h
  refine r_invV (As := [.int t255, .int t256]) (st := []) dL_law_267 lvL_100 ⟨by decide, by decide, by show k + 1 + 0 ≤ 600128; omega, by show n + 6 + 0 ≤ 7301098; omega, rfl, fun q => by cases q⟩ (Nat.le_of_ble_eq_true rfl) rfl rfl (pk_ok hk) (T_X6_draft hl h0) ?_
  refine r_aload_n dL_law_270 rfl 3 rfl ?_
  obtain ⟨z260, hk, h⟩ := bd h
  obtain ⟨t261, S262, h0, h⟩ := bd2_s h
  refine r_invV (As := []) (st := []) dL_law_271 lvL_94 ⟨by decide, by decide, by show k + 1 + 0 + 0 ≤ 600128; omega, by show n + 6 + 0 + 0 ≤ 7301098; omega, rfl, fun q => by cases q⟩ (Nat.le_of_ble_eq_true rfl) rfl rfl (pk_ok hk) (T_X6_thrown hl h0) ?_
  refine r_iload dL_law_274 0 rfl ?_
  refine r_icmp_eq (tgt := 281) dL_law_276 (by decide) (fun c263 => ?_) (fun c263 => ?_)
  · rw [if_pos c263] at h
    refine r_goto (tgt := 1331) dL_law_281 (by decide) ?_
    refine r_widen (k' := k + 2) (n' := n + 12) rfl (by show k + 1 + 0 + 0 ≤ k + 2; omega) (by show n + 6 + 0 + 0 ≤ n + 12; omega) ?_
    refine r_sub [1, 2, 3, 4, 5, 6] rfl ?_
    exact T_L_law_J1331 hl fu hK28 v1 v2 v3 v4 v5 S262 (k + 2) (n + 12) (by omega) (by omega) h
  · rw [if_neg c263] at h
    refine r_iconst (v := (0 : Int32)) dL_law_279 (by decide) ?_
    cases h

def F_L_law_J233 (g : GG) (K28 : Nat → Nat → Nat → Nat → Int32 → Mem → Option Unit) (v1 : Nat) (v2 : Nat) (v3 : Nat) (v4 : Nat) (v5 : Int32) (S : Mem) : Option Unit :=
    F_L_law_J1331 g K28 v1 v2 v3 v4 v5 S
set_option maxRecDepth 100000 in
theorem T_L_law_J233 {g : GG} {l : Launch} (hl : l.stackTraces = false) (fu : Nat) {K28 : Nat → Nat → Nat → Nat → Int32 → Mem → Option Unit} (hK28 : ∀ (v1 : Nat) (v2 : Nat) (v3 : Nat) (v4 : Nat) (v5 : Int32) (S : Mem) (k n : Nat), k + 2 * fu ≤ 600128 → n + 12 * fu ≤ 7301098 → K28 v1 v2 v3 v4 v5 S = some () → Run g l uL_law lawQ 28 [(0, .ref g.2.2.2.1), (1, .ref v1), (2, .ref v2), (3, .ref v3), (4, .ref v4), (5, .int v5)] [] k n S) : ∀ (v1 : Nat) (v2 : Nat) (v3 : Nat) (v4 : Nat) (v5 : Int32) (S : Mem) (k n : Nat), k + 2 * fu ≤ 600128 → n + 12 * fu ≤ 7301098 → F_L_law_J233 g K28 v1 v2 v3 v4 v5 S = some () → Run g l uL_law lawQ 233 [(0, .ref g.2.2.2.1), (1, .ref v1), (2, .ref v2), (3, .ref v3), (4, .ref v4), (5, .int v5)] [] k n S := by
  intro v1 v2 v3 v4 v5 S k n q1 q2 h
  unfold F_L_law_J233 at h
  refine r_goto (tgt := 1331) dL_law_233 (by decide) ?_
  exact T_L_law_J1331 hl fu hK28 v1 v2 v3 v4 v5 S k n (by omega) (by omega) h

def F_L_law_J136 (g : GG) (K28 : Nat → Nat → Nat → Nat → Int32 → Mem → Option Unit) (v1 : Nat) (v2 : Nat) (v3 : Nat) (v4 : Nat) (v5 : Int32) (S : Mem) : Option Unit :=
    (ptX g (v5 + (1 : Int32))).bind fun t264 =>
    (ptX g (v5 + (2 : Int32))).bind fun t265 =>
    (ptX g (v5 + (3 : Int32))).bind fun t266 =>
    bd2 (F_L_reference v1 ((t264.toInt64 <<< ((32 : Int32).toInt64 &&& 63)) ||| (t265.toInt64 &&& (4294967295 : Int64))) t266 v3 S) fun t267 S268 =>
    (ptX g (v5 + (1 : Int32))).bind fun t269 =>
    (ptX g (v5 + (2 : Int32))).bind fun t270 =>
    (ptX g (v5 + (3 : Int32))).bind fun t271 =>
    (pk 6 S268 v2).bind fun _ =>
    bd2 (F_X6_reference v2 ((t269.toInt64 <<< ((32 : Int32).toInt64 &&& 63)) ||| (t270.toInt64 &&& (4294967295 : Int64))) t271 S268) fun t273 S274 =>
    (pk 6 S274 v2).bind fun _ =>
    bd2 (F_X6_thrown v2 S274) fun t276 S277 =>
    if t276 = t267 then
      if t267 = 0 then
        (paJ S277 v3 (0 : Int32)).bind fun t280 =>
        if (lg_cmp t280 t273.toInt64) = 0 then
          F_L_law_J233 g K28 v1 v2 v3 v4 v5 S277
        else
          none
      else
        F_L_law_J233 g K28 v1 v2 v3 v4 v5 S277
    else
      none
set_option maxRecDepth 100000 in
theorem T_L_law_J136 {g : GG} {l : Launch} (hl : l.stackTraces = false) (fu : Nat) {K28 : Nat → Nat → Nat → Nat → Int32 → Mem → Option Unit} (hK28 : ∀ (v1 : Nat) (v2 : Nat) (v3 : Nat) (v4 : Nat) (v5 : Int32) (S : Mem) (k n : Nat), k + 2 * fu ≤ 600128 → n + 12 * fu ≤ 7301098 → K28 v1 v2 v3 v4 v5 S = some () → Run g l uL_law lawQ 28 [(0, .ref g.2.2.2.1), (1, .ref v1), (2, .ref v2), (3, .ref v3), (4, .ref v4), (5, .int v5)] [] k n S) : ∀ (v1 : Nat) (v2 : Nat) (v3 : Nat) (v4 : Nat) (v5 : Int32) (S : Mem) (k n : Nat), k + 2 + 2 * fu ≤ 600128 → n + 12 + 12 * fu ≤ 7301098 → F_L_law_J136 g K28 v1 v2 v3 v4 v5 S = some () → Run g l uL_law lawQ 136 [(0, .ref g.2.2.2.1), (1, .ref v1), (2, .ref v2), (3, .ref v3), (4, .ref v4), (5, .int v5)] [] k n S := by
  intro v1 v2 v3 v4 v5 S k n q1 q2 h
  unfold F_L_law_J136 at h
  refine r_aload_n dL_law_136 rfl 1 rfl ?_
  refine r_aload_n dL_law_137 rfl 0 rfl ?_
  refine r_iload dL_law_138 5 rfl ?_
  refine r_iconst (v := (1 : Int32)) dL_law_140 (by decide) ?_
  refine r_iadd dL_law_141 ?_
  obtain ⟨t264, h0, h⟩ := bd h
  refine q_script h0 dL_law_142 ?_
  refine r_i2l dL_law_143 ?_
  refine r_bipush (v := (32 : Int32)) dL_law_144 (by decide) ?_
  refine r_lshl dL_law_146 ?_
  refine r_aload_n dL_law_147 rfl 0 rfl ?_
  refine r_iload dL_law_148 5 rfl ?_
  refine r_iconst (v := (2 : Int32)) dL_law_150 (by decide) ?_
  refine r_iadd dL_law_151 ?_
  obtain ⟨t265, h0, h⟩ := bd h
  refine q_script h0 dL_law_152 ?_
  refine r_i2l dL_law_153 ?_
  refine r_ldc2 dL_law_154 wlL_86 ?_
  refine r_land dL_law_157 ?_
  refine r_lor dL_law_158 ?_
  refine r_aload_n dL_law_159 rfl 0 rfl ?_
  refine r_iload dL_law_160 5 rfl ?_
  refine r_iconst (v := (3 : Int32)) dL_law_162 (by decide) ?_
  refine r_iadd dL_law_163 ?_
  obtain ⟨t266, h0, h⟩ := bd h
  refine q_script h0 dL_law_164 ?_
  refine r_aload_n dL_law_165 rfl 3 rfl ?_
  obtain ⟨t267, S268, h0, h⟩ := bd2_s h
  refine r_invT (As := [.ref v1, .long ((t264.toInt64 <<< ((32 : Int32).toInt64 &&& 63)) ||| (t265.toInt64 &&& (4294967295 : Int64))), .int t266, .ref v3]) (st := []) dL_law_166 ltL_88 ⟨by decide, by decide, by show k + 1 ≤ 600128; omega, by show n + 6 ≤ 7301098; omega, rfl, fun q => by cases q⟩ (Nat.le_of_ble_eq_true rfl) rfl rfl (T_L_reference hl h0) ?_
  refine r_istore (lv' := [(6, .int t267), (0, .ref g.2.2.2.1), (1, .ref v1), (2, .ref v2), (3, .ref v3), (4, .ref v4), (5, .int v5)]) dL_law_169 (by decide) rfl ?_
  refine r_aload_n dL_law_171 rfl 3 rfl ?_
  refine r_aload_n dL_law_172 rfl 1 rfl ?_
  refine r_iload dL_law_173 6 rfl ?_
  refine r_iconst (v := (1 : Int32)) dL_law_175 (by decide) ?_
  refine r_iadd dL_law_176 ?_
  obtain ⟨t269, h0, h⟩ := bd h
  refine q_script h0 dL_law_177 ?_
  refine r_i2l dL_law_178 ?_
  refine r_bipush (v := (32 : Int32)) dL_law_179 (by decide) ?_
  refine r_lshl dL_law_181 ?_
  refine r_aload_n dL_law_182 rfl 1 rfl ?_
  refine r_iload dL_law_183 6 rfl ?_
  refine r_iconst (v := (2 : Int32)) dL_law_185 (by decide) ?_
  refine r_iadd dL_law_186 ?_
  obtain ⟨t270, h0, h⟩ := bd h
  refine q_script h0 dL_law_187 ?_
  refine r_i2l dL_law_188 ?_
  refine r_ldc2 dL_law_189 wlL_86 ?_
  refine r_land dL_law_192 ?_
  refine r_lor dL_law_193 ?_
  refine r_aload_n dL_law_194 rfl 1 rfl ?_
  refine r_iload dL_law_195 6 rfl ?_
  refine r_iconst (v := (3 : Int32)) dL_law_197 (by decide) ?_
  refine r_iadd dL_law_198 ?_
  obtain ⟨t271, h0, h⟩ := bd h
  refine q_script h0 dL_law_199 ?_
  obtain ⟨z272, hk, h⟩ := bd h
  obtain ⟨t273, S274, h0, h⟩ := bd2_s h
  refine r_invV (As := [.long ((t269.toInt64 <<< ((32 : Int32).toInt64 &&& 63)) ||| (t270.toInt64 &&& (4294967295 : Int64))), .int t271]) (st := []) dL_law_200 lvL_93 ⟨by decide, by decide, by show k + 1 + 0 ≤ 600128; omega, by show n + 6 + 0 ≤ 7301098; omega, rfl, fun q => by cases q⟩ (Nat.le_of_ble_eq_true rfl) rfl rfl (pk_ok hk) (T_X6_reference hl h0) ?_
  refine r_istore (lv' := [(7, .int t273), (6, .int t267), (0, .ref g.2.2.2.1), (1, .ref v1), (2, .ref v2), (3, .ref v3), (4, .ref v4), (5, .int v5)]) dL_law_203 (by decide) rfl ?_
  refine r_aload_n dL_law_205 rfl 4 rfl ?_
  obtain ⟨z275, hk, h⟩ := bd h
  obtain ⟨t276, S277, h0, h⟩ := bd2_s h
  refine r_invV (As := []) (st := []) dL_law_206 lvL_94 ⟨by decide, by decide, by show k + 1 + 0 + 0 ≤ 600128; omega, by show n + 6 + 0 + 0 ≤ 7301098; omega, rfl, fun q => by cases q⟩ (Nat.le_of_ble_eq_true rfl) rfl rfl (pk_ok hk) (T_X6_thrown hl h0) ?_
  refine r_iload dL_law_209 1 rfl ?_
  refine r_icmp_eq (tgt := 216) dL_law_211 (by decide) (fun c278 => ?_) (fun c278 => ?_)
  · rw [if_pos c278] at h
    refine r_iload dL_law_216 1 rfl ?_
    refine r_if_ne (tgt := 233) dL_law_218 (by decide) (fun c279 => ?_) (fun c279 => ?_)
    · rw [if_neg c279] at h
      refine r_widen (k' := k + 2) (n' := n + 12) rfl (by show k + 1 + 0 + 0 ≤ k + 2; omega) (by show n + 6 + 0 + 0 ≤ n + 12; omega) ?_
      refine r_sub [2, 3, 4, 5, 6, 7] rfl ?_
      exact T_L_law_J233 hl fu hK28 v1 v2 v3 v4 v5 S277 (k + 2) (n + 12) (by omega) (by omega) h
    · rw [if_pos c279] at h
      refine r_aload_n dL_law_221 rfl 5 rfl ?_
      refine r_iconst (v := (0 : Int32)) dL_law_222 (by decide) ?_
      obtain ⟨t280, h0, h⟩ := bd h
      refine q_laload h0 dL_law_223 ?_
      refine r_iload dL_law_224 0 rfl ?_
      refine r_i2l dL_law_226 ?_
      refine r_lcmp dL_law_227 ?_
      refine r_if_eq (tgt := 233) dL_law_228 (by decide) (fun c281 => ?_) (fun c281 => ?_)
      · rw [if_pos c281] at h
        refine r_widen (k' := k + 2) (n' := n + 12) rfl (by show k + 1 + 0 + 0 ≤ k + 2; omega) (by show n + 6 + 0 + 0 ≤ n + 12; omega) ?_
        refine r_sub [2, 3, 4, 5, 6, 7] rfl ?_
        exact T_L_law_J233 hl fu hK28 v1 v2 v3 v4 v5 S277 (k + 2) (n + 12) (by omega) (by omega) h
      · rw [if_neg c281] at h
        refine r_iconst (v := (0 : Int32)) dL_law_231 (by decide) ?_
        cases h
  · rw [if_neg c278] at h
    refine r_iconst (v := (0 : Int32)) dL_law_214 (by decide) ?_
    cases h

def F_L_law_L28 (g : GG) : Nat → Nat → Nat → Nat → Nat → Int32 → Mem → Option Unit
  | 0, _, _, _, _, _, _ => none
  | fu + 1, v1, v2, v3, v4, v5, S =>
    if ((Int32.ofNat g.2.2.2.2.1) - (5 : Int32)) < v5 then
      some ()
    else
      (ptX g v5).bind fun t283 =>
      if (t283 &&& (31 : Int32)) = 0 then
        F_L_law_J136 g (F_L_law_L28 g fu) v1 v2 v3 v4 v5 S
      else
      if (t283 &&& (31 : Int32)) = 1 then
        F_L_law_J236 g (F_L_law_L28 g fu) v1 v2 v3 v4 v5 S
      else
      if (t283 &&& (31 : Int32)) = 2 then
        F_L_law_J284 g (F_L_law_L28 g fu) v1 v2 v3 v4 v5 S
      else
      if (t283 &&& (31 : Int32)) = 3 then
        F_L_law_J384 g (F_L_law_L28 g fu) v1 v2 v3 v4 v5 S
      else
      if (t283 &&& (31 : Int32)) = 4 then
        F_L_law_J444 g (F_L_law_L28 g fu) v1 v2 v3 v4 v5 S
      else
      if (t283 &&& (31 : Int32)) = 5 then
        F_L_law_J532 g (F_L_law_L28 g fu) v1 v2 v3 v4 v5 S
      else
      if (t283 &&& (31 : Int32)) = 6 then
        F_L_law_J592 g (F_L_law_L28 g fu) v1 v2 v3 v4 v5 S
      else
      if (t283 &&& (31 : Int32)) = 7 then
        F_L_law_J636 g (F_L_law_L28 g fu) v1 v2 v3 v4 v5 S
      else
      if (t283 &&& (31 : Int32)) = 8 then
        F_L_law_J672 g (F_L_law_L28 g fu) v1 v2 v3 v4 v5 S
      else
      if (t283 &&& (31 : Int32)) = 9 then
        F_L_law_J728 g (F_L_law_L28 g fu) v1 v2 v3 v4 v5 S
      else
      if (t283 &&& (31 : Int32)) = 10 then
        F_L_law_J784 g (F_L_law_L28 g fu) v1 v2 v3 v4 v5 S
      else
      if (t283 &&& (31 : Int32)) = 11 then
        F_L_law_J820 g (F_L_law_L28 g fu) v1 v2 v3 v4 v5 S
      else
      if (t283 &&& (31 : Int32)) = 12 then
        F_L_law_J888 g (F_L_law_L28 g fu) v1 v2 v3 v4 v5 S
      else
      if (t283 &&& (31 : Int32)) = 13 then
        F_L_law_J968 g (F_L_law_L28 g fu) v1 v2 v3 v4 v5 S
      else
      if (t283 &&& (31 : Int32)) = 14 then
        F_L_law_J1012 g (F_L_law_L28 g fu) v1 v2 v3 v4 v5 S
      else
      if (t283 &&& (31 : Int32)) = 15 then
        F_L_law_J1025 g (F_L_law_L28 g fu) v1 v2 v3 v4 v5 S
      else
      if (t283 &&& (31 : Int32)) = 16 then
        F_L_law_J1093 g (F_L_law_L28 g fu) v1 v2 v3 v4 v5 S
      else
      if (t283 &&& (31 : Int32)) = 17 then
        F_L_law_J1173 g (F_L_law_L28 g fu) v1 v2 v3 v4 v5 S
      else
      if (t283 &&& (31 : Int32)) = 18 then
        F_L_law_J1241 g (F_L_law_L28 g fu) v1 v2 v3 v4 v5 S
      else
      F_L_law_J1331 g (F_L_law_L28 g fu) v1 v2 v3 v4 v5 S
set_option maxRecDepth 100000 in
theorem T_L_law_L28 {g : GG} {l : Launch} (hl : l.stackTraces = false) : ∀ (fu : Nat) (v1 : Nat) (v2 : Nat) (v3 : Nat) (v4 : Nat) (v5 : Int32) (S : Mem) (k n : Nat), k + 2 * fu ≤ 600128 → n + 12 * fu ≤ 7301098 → F_L_law_L28 g fu v1 v2 v3 v4 v5 S = some () → Run g l uL_law lawQ 28 [(0, .ref g.2.2.2.1), (1, .ref v1), (2, .ref v2), (3, .ref v3), (4, .ref v4), (5, .int v5)] [] k n S := by
  intro fu
  induction fu with
  | zero =>
    intro v1 v2 v3 v4 v5 S k n q1 q2 h
    cases (show none = some _ from h)
  | succ fu ih =>
    intro v1 v2 v3 v4 v5 S k n q1 q2 h
    unfold F_L_law_L28 at h
    refine r_iload dL_law_28 5 rfl ?_
    refine r_aload_n dL_law_30 rfl 0 rfl ?_
    refine r_scriptL dL_law_31 ?_
    refine r_iconst (v := (5 : Int32)) dL_law_32 (by decide) ?_
    refine r_isub dL_law_33 ?_
    refine r_icmp_gt (tgt := 1337) dL_law_34 (by decide) (fun c282 => ?_) (fun c282 => ?_)
    · rw [if_pos c282] at h
      refine r_iconst (v := (1 : Int32)) dL_law_1337 (by decide) ?_
      exact r_lawret dL_law_1338 (by omega) (by omega)
    · rw [if_neg c282] at h
      refine r_aload_n dL_law_37 rfl 0 rfl ?_
      refine r_iload dL_law_38 5 rfl ?_
      obtain ⟨t283, h0, h⟩ := bd h
      refine q_script h0 dL_law_40 ?_
      refine r_bipush (v := (31 : Int32)) dL_law_41 (by decide) ?_
      refine r_iand dL_law_43 ?_
      by_cases c284 : (t283 &&& (31 : Int32)) = 0
      · rw [if_pos c284] at h
        refine r_tsIn (j := 0) (tgt := 136) dL_law_44 (by decide) (by decide) (by rw [c284]; rfl) rfl (by decide) ?_
        exact T_L_law_J136 hl fu (fun v1 v2 v3 v4 v5 S k n q1 q2 h => ih v1 v2 v3 v4 v5 S k n q1 q2 h) v1 v2 v3 v4 v5 S k n (by omega) (by omega) h
      rw [if_neg c284] at h
      by_cases c285 : (t283 &&& (31 : Int32)) = 1
      · rw [if_pos c285] at h
        refine r_tsIn (j := 1) (tgt := 236) dL_law_44 (by decide) (by decide) (by rw [c285]; rfl) rfl (by decide) ?_
        exact T_L_law_J236 hl fu (fun v1 v2 v3 v4 v5 S k n q1 q2 h => ih v1 v2 v3 v4 v5 S k n q1 q2 h) v1 v2 v3 v4 v5 S k n (by omega) (by omega) h
      rw [if_neg c285] at h
      by_cases c286 : (t283 &&& (31 : Int32)) = 2
      · rw [if_pos c286] at h
        refine r_tsIn (j := 2) (tgt := 284) dL_law_44 (by decide) (by decide) (by rw [c286]; rfl) rfl (by decide) ?_
        exact T_L_law_J284 hl fu (fun v1 v2 v3 v4 v5 S k n q1 q2 h => ih v1 v2 v3 v4 v5 S k n q1 q2 h) v1 v2 v3 v4 v5 S k n (by omega) (by omega) h
      rw [if_neg c286] at h
      by_cases c287 : (t283 &&& (31 : Int32)) = 3
      · rw [if_pos c287] at h
        refine r_tsIn (j := 3) (tgt := 384) dL_law_44 (by decide) (by decide) (by rw [c287]; rfl) rfl (by decide) ?_
        exact T_L_law_J384 hl fu (fun v1 v2 v3 v4 v5 S k n q1 q2 h => ih v1 v2 v3 v4 v5 S k n q1 q2 h) v1 v2 v3 v4 v5 S k n (by omega) (by omega) h
      rw [if_neg c287] at h
      by_cases c288 : (t283 &&& (31 : Int32)) = 4
      · rw [if_pos c288] at h
        refine r_tsIn (j := 4) (tgt := 444) dL_law_44 (by decide) (by decide) (by rw [c288]; rfl) rfl (by decide) ?_
        exact T_L_law_J444 hl fu (fun v1 v2 v3 v4 v5 S k n q1 q2 h => ih v1 v2 v3 v4 v5 S k n q1 q2 h) v1 v2 v3 v4 v5 S k n (by omega) (by omega) h
      rw [if_neg c288] at h
      by_cases c289 : (t283 &&& (31 : Int32)) = 5
      · rw [if_pos c289] at h
        refine r_tsIn (j := 5) (tgt := 532) dL_law_44 (by decide) (by decide) (by rw [c289]; rfl) rfl (by decide) ?_
        exact T_L_law_J532 hl fu (fun v1 v2 v3 v4 v5 S k n q1 q2 h => ih v1 v2 v3 v4 v5 S k n q1 q2 h) v1 v2 v3 v4 v5 S k n (by omega) (by omega) h
      rw [if_neg c289] at h
      by_cases c290 : (t283 &&& (31 : Int32)) = 6
      · rw [if_pos c290] at h
        refine r_tsIn (j := 6) (tgt := 592) dL_law_44 (by decide) (by decide) (by rw [c290]; rfl) rfl (by decide) ?_
        exact T_L_law_J592 hl fu (fun v1 v2 v3 v4 v5 S k n q1 q2 h => ih v1 v2 v3 v4 v5 S k n q1 q2 h) v1 v2 v3 v4 v5 S k n (by omega) (by omega) h
      rw [if_neg c290] at h
      by_cases c291 : (t283 &&& (31 : Int32)) = 7
      · rw [if_pos c291] at h
        refine r_tsIn (j := 7) (tgt := 636) dL_law_44 (by decide) (by decide) (by rw [c291]; rfl) rfl (by decide) ?_
        exact T_L_law_J636 hl fu (fun v1 v2 v3 v4 v5 S k n q1 q2 h => ih v1 v2 v3 v4 v5 S k n q1 q2 h) v1 v2 v3 v4 v5 S k n (by omega) (by omega) h
      rw [if_neg c291] at h
      by_cases c292 : (t283 &&& (31 : Int32)) = 8
      · rw [if_pos c292] at h
        refine r_tsIn (j := 8) (tgt := 672) dL_law_44 (by decide) (by decide) (by rw [c292]; rfl) rfl (by decide) ?_
        exact T_L_law_J672 hl fu (fun v1 v2 v3 v4 v5 S k n q1 q2 h => ih v1 v2 v3 v4 v5 S k n q1 q2 h) v1 v2 v3 v4 v5 S k n (by omega) (by omega) h
      rw [if_neg c292] at h
      by_cases c293 : (t283 &&& (31 : Int32)) = 9
      · rw [if_pos c293] at h
        refine r_tsIn (j := 9) (tgt := 728) dL_law_44 (by decide) (by decide) (by rw [c293]; rfl) rfl (by decide) ?_
        exact T_L_law_J728 hl fu (fun v1 v2 v3 v4 v5 S k n q1 q2 h => ih v1 v2 v3 v4 v5 S k n q1 q2 h) v1 v2 v3 v4 v5 S k n (by omega) (by omega) h
      rw [if_neg c293] at h
      by_cases c294 : (t283 &&& (31 : Int32)) = 10
      · rw [if_pos c294] at h
        refine r_tsIn (j := 10) (tgt := 784) dL_law_44 (by decide) (by decide) (by rw [c294]; rfl) rfl (by decide) ?_
        exact T_L_law_J784 hl fu (fun v1 v2 v3 v4 v5 S k n q1 q2 h => ih v1 v2 v3 v4 v5 S k n q1 q2 h) v1 v2 v3 v4 v5 S k n (by omega) (by omega) h
      rw [if_neg c294] at h
      by_cases c295 : (t283 &&& (31 : Int32)) = 11
      · rw [if_pos c295] at h
        refine r_tsIn (j := 11) (tgt := 820) dL_law_44 (by decide) (by decide) (by rw [c295]; rfl) rfl (by decide) ?_
        exact T_L_law_J820 hl fu (fun v1 v2 v3 v4 v5 S k n q1 q2 h => ih v1 v2 v3 v4 v5 S k n q1 q2 h) v1 v2 v3 v4 v5 S k n (by omega) (by omega) h
      rw [if_neg c295] at h
      by_cases c296 : (t283 &&& (31 : Int32)) = 12
      · rw [if_pos c296] at h
        refine r_tsIn (j := 12) (tgt := 888) dL_law_44 (by decide) (by decide) (by rw [c296]; rfl) rfl (by decide) ?_
        exact T_L_law_J888 hl fu (fun v1 v2 v3 v4 v5 S k n q1 q2 h => ih v1 v2 v3 v4 v5 S k n q1 q2 h) v1 v2 v3 v4 v5 S k n (by omega) (by omega) h
      rw [if_neg c296] at h
      by_cases c297 : (t283 &&& (31 : Int32)) = 13
      · rw [if_pos c297] at h
        refine r_tsIn (j := 13) (tgt := 968) dL_law_44 (by decide) (by decide) (by rw [c297]; rfl) rfl (by decide) ?_
        exact T_L_law_J968 hl fu (fun v1 v2 v3 v4 v5 S k n q1 q2 h => ih v1 v2 v3 v4 v5 S k n q1 q2 h) v1 v2 v3 v4 v5 S k n (by omega) (by omega) h
      rw [if_neg c297] at h
      by_cases c298 : (t283 &&& (31 : Int32)) = 14
      · rw [if_pos c298] at h
        refine r_tsIn (j := 14) (tgt := 1012) dL_law_44 (by decide) (by decide) (by rw [c298]; rfl) rfl (by decide) ?_
        exact T_L_law_J1012 hl fu (fun v1 v2 v3 v4 v5 S k n q1 q2 h => ih v1 v2 v3 v4 v5 S k n q1 q2 h) v1 v2 v3 v4 v5 S k n (by omega) (by omega) h
      rw [if_neg c298] at h
      by_cases c299 : (t283 &&& (31 : Int32)) = 15
      · rw [if_pos c299] at h
        refine r_tsIn (j := 15) (tgt := 1025) dL_law_44 (by decide) (by decide) (by rw [c299]; rfl) rfl (by decide) ?_
        exact T_L_law_J1025 hl fu (fun v1 v2 v3 v4 v5 S k n q1 q2 h => ih v1 v2 v3 v4 v5 S k n q1 q2 h) v1 v2 v3 v4 v5 S k n (by omega) (by omega) h
      rw [if_neg c299] at h
      by_cases c300 : (t283 &&& (31 : Int32)) = 16
      · rw [if_pos c300] at h
        refine r_tsIn (j := 16) (tgt := 1093) dL_law_44 (by decide) (by decide) (by rw [c300]; rfl) rfl (by decide) ?_
        exact T_L_law_J1093 hl fu (fun v1 v2 v3 v4 v5 S k n q1 q2 h => ih v1 v2 v3 v4 v5 S k n q1 q2 h) v1 v2 v3 v4 v5 S k n (by omega) (by omega) h
      rw [if_neg c300] at h
      by_cases c301 : (t283 &&& (31 : Int32)) = 17
      · rw [if_pos c301] at h
        refine r_tsIn (j := 17) (tgt := 1173) dL_law_44 (by decide) (by decide) (by rw [c301]; rfl) rfl (by decide) ?_
        exact T_L_law_J1173 hl fu (fun v1 v2 v3 v4 v5 S k n q1 q2 h => ih v1 v2 v3 v4 v5 S k n q1 q2 h) v1 v2 v3 v4 v5 S k n (by omega) (by omega) h
      rw [if_neg c301] at h
      by_cases c302 : (t283 &&& (31 : Int32)) = 18
      · rw [if_pos c302] at h
        refine r_tsIn (j := 18) (tgt := 1241) dL_law_44 (by decide) (by decide) (by rw [c302]; rfl) rfl (by decide) ?_
        exact T_L_law_J1241 hl fu (fun v1 v2 v3 v4 v5 S k n q1 q2 h => ih v1 v2 v3 v4 v5 S k n q1 q2 h) v1 v2 v3 v4 v5 S k n (by omega) (by omega) h
      rw [if_neg c302] at h
      have nc284 := ne_toInt c284
      have nc285 := ne_toInt c285
      have nc286 := ne_toInt c286
      have nc287 := ne_toInt c287
      have nc288 := ne_toInt c288
      have nc289 := ne_toInt c289
      have nc290 := ne_toInt c290
      have nc291 := ne_toInt c291
      have nc292 := ne_toInt c292
      have nc293 := ne_toInt c293
      have nc294 := ne_toInt c294
      have nc295 := ne_toInt c295
      have nc296 := ne_toInt c296
      have nc297 := ne_toInt c297
      have nc298 := ne_toInt c298
      have nc299 := ne_toInt c299
      have nc300 := ne_toInt c300
      have nc301 := ne_toInt c301
      have nc302 := ne_toInt c302
      have ec284 : (0 : Int32).toInt = 0 := by decide
      have ec285 : (1 : Int32).toInt = 1 := by decide
      have ec286 : (2 : Int32).toInt = 2 := by decide
      have ec287 : (3 : Int32).toInt = 3 := by decide
      have ec288 : (4 : Int32).toInt = 4 := by decide
      have ec289 : (5 : Int32).toInt = 5 := by decide
      have ec290 : (6 : Int32).toInt = 6 := by decide
      have ec291 : (7 : Int32).toInt = 7 := by decide
      have ec292 : (8 : Int32).toInt = 8 := by decide
      have ec293 : (9 : Int32).toInt = 9 := by decide
      have ec294 : (10 : Int32).toInt = 10 := by decide
      have ec295 : (11 : Int32).toInt = 11 := by decide
      have ec296 : (12 : Int32).toInt = 12 := by decide
      have ec297 : (13 : Int32).toInt = 13 := by decide
      have ec298 : (14 : Int32).toInt = 14 := by decide
      have ec299 : (15 : Int32).toInt = 15 := by decide
      have ec300 : (16 : Int32).toInt = 16 := by decide
      have ec301 : (17 : Int32).toInt = 17 := by decide
      have ec302 : (18 : Int32).toInt = 18 := by decide
      refine r_tsOut (tgt := 1331) dL_law_44 (by omega) (by decide) ?_
      refine r_widen (k' := k + 2) (n' := n + 12) rfl (by show k ≤ k + 2; omega) (by show n ≤ n + 12; omega) ?_
      exact T_L_law_J1331 hl fu (fun v1 v2 v3 v4 v5 S k n q1 q2 h => ih v1 v2 v3 v4 v5 S k n q1 q2 h) v1 v2 v3 v4 v5 S (k + 2) (n + 12) (by omega) (by omega) h

