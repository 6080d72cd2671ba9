/-! the primitives on Variants and on the fixed things -/
def zBo (x : Int32) : Prop := x = 0 ∨ x = 1
theorem zBo_0 : zBo (nI 0) := Or.inl rfl
theorem zBo_1 : zBo (nI 1) := Or.inr rfl
theorem zBo_of {a : Nat} (h : a ≤ 1) : zBo (nI a) := by
  rcases (show a = 0 ∨ a = 1 by omega) with e | e <;> subst e
  · exact zBo_0
  · exact zBo_1
section ZP
variable {S : Mem} {v z k j n : Nat} {x : Int32}
theorem v_pk (h : zVar S v) : pk 4 S v = some () := e_pk h.1
theorem v_gI (h : zVar S v) : pgI 4 j S v = some (mI S v j) := e_pgI h.1
theorem v_pI (h : zVar S v) : ppI 4 j S v x = some (sI S v j x) := e_ppI h.1
theorem v_g3 (h : zVar S v) : pgR 4 3 S v = some (v + 1) := e_pgR h.1 h.2.1.1
theorem v_a1 (h : zVar S v) (hk : k < 4) : paI S (v + 1) (nI k) = some (mI S (v + 1) k) := e_paI h.2.2.1.1 h.2.2.1.2 hk (by decide)
theorem v_s1 (h : zVar S v) (hk : k < 4) : psI S (v + 1) (nI k) x = some (sI S (v + 1) k x) := e_psI h.2.2.1.1 h.2.2.1.2 hk (by decide)
theorem v_g4 (h : zVar S v) : pgR 4 4 S v = some (v + 2) := e_pgR h.1 h.2.1.2.1
theorem v_a2 (h : zVar S v) (hk : k < 4) : paI S (v + 2) (nI k) = some (mI S (v + 2) k) := e_paI h.2.2.2.1.1 h.2.2.2.1.2 hk (by decide)
theorem v_s2 (h : zVar S v) (hk : k < 4) : psI S (v + 2) (nI k) x = some (sI S (v + 2) k x) := e_psI h.2.2.2.1.1 h.2.2.2.1.2 hk (by decide)
theorem v_g5 (h : zVar S v) : pgR 4 5 S v = some (v + 3) := e_pgR h.1 h.2.1.2.2.1
theorem v_a3 (h : zVar S v) (hk : k < 4) : paI S (v + 3) (nI k) = some (mI S (v + 3) k) := e_paI h.2.2.2.2.1.1 h.2.2.2.2.1.2 hk (by decide)
theorem v_s3 (h : zVar S v) (hk : k < 4) : psI S (v + 3) (nI k) x = some (sI S (v + 3) k x) := e_psI h.2.2.2.2.1.1 h.2.2.2.2.1.2 hk (by decide)
theorem v_g6 (h : zVar S v) : pgR 4 6 S v = some (v + 4) := e_pgR h.1 h.2.1.2.2.2.1
theorem v_a4 (h : zVar S v) (hk : k < 4) : paI S (v + 4) (nI k) = some (mI S (v + 4) k) := e_paI h.2.2.2.2.2.1.1 h.2.2.2.2.2.1.2 hk (by decide)
theorem v_s4 (h : zVar S v) (hk : k < 4) : psI S (v + 4) (nI k) x = some (sI S (v + 4) k x) := e_psI h.2.2.2.2.2.1.1 h.2.2.2.2.2.1.2 hk (by decide)
theorem v_g7 (h : zVar S v) : pgR 4 7 S v = some (v + 5) := e_pgR h.1 h.2.1.2.2.2.2.1
theorem v_a5 (h : zVar S v) (hk : k < 2) : paZ S (v + 5) (nI k) = some (mI S (v + 5) k) := e_paZ h.2.2.2.2.2.2.1.1 h.2.2.2.2.2.2.1.2 hk (by decide)
theorem v_s5 (h : zVar S v) (hk : k < 2) (hx : zBo x) : psZ S (v + 5) (nI k) x = some (sI S (v + 5) k x) := e_psZ h.2.2.2.2.2.2.1.1 h.2.2.2.2.2.2.1.2 hk (by decide) hx
theorem v_g8 (h : zVar S v) : pgR 4 8 S v = some (v + 6) := e_pgR h.1 h.2.1.2.2.2.2.2
theorem v_a6 (h : zVar S v) (hk : k < 20) : paI S (v + 6) (nI k) = some (mI S (v + 6) k) := e_paI h.2.2.2.2.2.2.2.1 h.2.2.2.2.2.2.2.2 hk (by decide)
theorem v_s6 (h : zVar S v) (hk : k < 20) : psI S (v + 6) (nI k) x = some (sI S (v + 6) k x) := e_psI h.2.2.2.2.2.2.2.1 h.2.2.2.2.2.2.2.2 hk (by decide)
theorem t_k0 (h : zSt z S) : pk 5 S z = some () := e_pk (t_ok h 0 5 0 rfl).1
theorem t_g0 (h : zSt z S) : pgI 5 j S z = some (mI S z j) := e_pgI (t_ok h 0 5 0 rfl).1
theorem t_p0 (h : zSt z S) : ppI 5 j S z x = some (sI S z j x) := e_ppI (t_ok h 0 5 0 rfl).1
theorem t_z0 (h : zSt z S) (hx : zBo x) : ppZ 5 j S z x = some (sI S z j x) := e_ppZ (t_ok h 0 5 0 rfl).1 hx
theorem t_k1 (h : zSt z S) : pk 3 S (z + 1) = some () := e_pk (t_ok h 1 3 0 rfl).1
theorem t_g1 (h : zSt z S) : pgI 3 j S (z + 1) = some (mI S (z + 1) j) := e_pgI (t_ok h 1 3 0 rfl).1
theorem t_p1 (h : zSt z S) : ppI 3 j S (z + 1) x = some (sI S (z + 1) j x) := e_ppI (t_ok h 1 3 0 rfl).1
theorem t_z1 (h : zSt z S) (hx : zBo x) : ppZ 3 j S (z + 1) x = some (sI S (z + 1) j x) := e_ppZ (t_ok h 1 3 0 rfl).1 hx
theorem t_k3 (h : zSt z S) : pk 2 S (z + 3) = some () := e_pk (t_ok h 3 2 0 rfl).1
theorem t_g3 (h : zSt z S) : pgI 2 j S (z + 3) = some (mI S (z + 3) j) := e_pgI (t_ok h 3 2 0 rfl).1
theorem t_p3 (h : zSt z S) : ppI 2 j S (z + 3) x = some (sI S (z + 3) j x) := e_ppI (t_ok h 3 2 0 rfl).1
theorem t_z3 (h : zSt z S) (hx : zBo x) : ppZ 2 j S (z + 3) x = some (sI S (z + 3) j x) := e_ppZ (t_ok h 3 2 0 rfl).1 hx
theorem t_k187 (h : zSt z S) : pk 1 S (z + 187) = some () := e_pk (t_ok h 187 1 0 rfl).1
theorem t_g187 (h : zSt z S) : pgI 1 j S (z + 187) = some (mI S (z + 187) j) := e_pgI (t_ok h 187 1 0 rfl).1
theorem t_p187 (h : zSt z S) : ppI 1 j S (z + 187) x = some (sI S (z + 187) j x) := e_ppI (t_ok h 187 1 0 rfl).1
theorem t_z187 (h : zSt z S) (hx : zBo x) : ppZ 1 j S (z + 187) x = some (sI S (z + 187) j x) := e_ppZ (t_ok h 187 1 0 rfl).1 hx
theorem t_k210 (h : zSt z S) : pk 0 S (z + 210) = some () := e_pk (t_ok h 210 0 0 rfl).1
theorem t_g210 (h : zSt z S) : pgI 0 j S (z + 210) = some (mI S (z + 210) j) := e_pgI (t_ok h 210 0 0 rfl).1
theorem t_p210 (h : zSt z S) : ppI 0 j S (z + 210) x = some (sI S (z + 210) j x) := e_ppI (t_ok h 210 0 0 rfl).1
theorem t_z210 (h : zSt z S) (hx : zBo x) : ppZ 0 j S (z + 210) x = some (sI S (z + 210) j x) := e_ppZ (t_ok h 210 0 0 rfl).1 hx
theorem t_k212 (h : zSt z S) : pk 0 S (z + 212) = some () := e_pk (t_ok h 212 0 0 rfl).1
theorem t_g212 (h : zSt z S) : pgI 0 j S (z + 212) = some (mI S (z + 212) j) := e_pgI (t_ok h 212 0 0 rfl).1
theorem t_p212 (h : zSt z S) : ppI 0 j S (z + 212) x = some (sI S (z + 212) j x) := e_ppI (t_ok h 212 0 0 rfl).1
theorem t_z212 (h : zSt z S) (hx : zBo x) : ppZ 0 j S (z + 212) x = some (sI S (z + 212) j x) := e_ppZ (t_ok h 212 0 0 rfl).1 hx
theorem t_k214 (h : zSt z S) : pk 6 S (z + 214) = some () := e_pk (t_ok h 214 6 0 rfl).1
theorem t_g214 (h : zSt z S) : pgI 6 j S (z + 214) = some (mI S (z + 214) j) := e_pgI (t_ok h 214 6 0 rfl).1
theorem t_p214 (h : zSt z S) : ppI 6 j S (z + 214) x = some (sI S (z + 214) j x) := e_ppI (t_ok h 214 6 0 rfl).1
theorem t_z214 (h : zSt z S) (hx : zBo x) : ppZ 6 j S (z + 214) x = some (sI S (z + 214) j x) := e_ppZ (t_ok h 214 6 0 rfl).1 hx
theorem t_r0_0 (h : zSt z S) : pgR 5 0 S z = some (z + 1) := e_pgR (t_ok h 0 5 0 rfl).1 (t_rf h 0 0 1 (by decide +kernel))
theorem t_r0_1 (h : zSt z S) : pgR 5 1 S z = some (z + 3) := e_pgR (t_ok h 0 5 0 rfl).1 (t_rf h 0 1 3 (by decide +kernel))
theorem t_r0_2 (h : zSt z S) : pgR 5 2 S z = some (z + 173) := e_pgR (t_ok h 0 5 0 rfl).1 (t_rf h 0 2 173 (by decide +kernel))
theorem t_r0_4 (h : zSt z S) : pgR 5 4 S z = some (z + 180) := e_pgR (t_ok h 0 5 0 rfl).1 (t_rf h 0 4 180 (by decide +kernel))
theorem t_r0_5 (h : zSt z S) : pgR 5 5 S z = some (z + 187) := e_pgR (t_ok h 0 5 0 rfl).1 (t_rf h 0 5 187 (by decide +kernel))
theorem t_r0_6 (h : zSt z S) : pgR 5 6 S z = some (z + 210) := e_pgR (t_ok h 0 5 0 rfl).1 (t_rf h 0 6 210 (by decide +kernel))
theorem t_r0_7 (h : zSt z S) : pgR 5 7 S z = some (z + 212) := e_pgR (t_ok h 0 5 0 rfl).1 (t_rf h 0 7 212 (by decide +kernel))
theorem t_r1_0 (h : zSt z S) : pgR 3 0 S (z + 1) = some (z + 2) := e_pgR (t_ok h 1 3 0 rfl).1 (t_rf h 1 0 2 (by decide +kernel))
theorem t_r3_0 (h : zSt z S) : pgR 2 0 S (z + 3) = some (z + 4) := e_pgR (t_ok h 3 2 0 rfl).1 (t_rf h 3 0 4 (by decide +kernel))
theorem t_r187_0 (h : zSt z S) : pgR 1 0 S (z + 187) = some (z + 188) := e_pgR (t_ok h 187 1 0 rfl).1 (t_rf h 187 0 188 (by decide +kernel))
theorem t_r187_1 (h : zSt z S) : pgR 1 1 S (z + 187) = some (z + 195) := e_pgR (t_ok h 187 1 0 rfl).1 (t_rf h 187 1 195 (by decide +kernel))
theorem t_r187_2 (h : zSt z S) : pgR 1 2 S (z + 187) = some (z + 202) := e_pgR (t_ok h 187 1 0 rfl).1 (t_rf h 187 2 202 (by decide +kernel))
theorem t_r187_3 (h : zSt z S) : pgR 1 3 S (z + 187) = some (z + 209) := e_pgR (t_ok h 187 1 0 rfl).1 (t_rf h 187 3 209 (by decide +kernel))
theorem t_r210_0 (h : zSt z S) : pgR 0 0 S (z + 210) = some (z + 211) := e_pgR (t_ok h 210 0 0 rfl).1 (t_rf h 210 0 211 (by decide +kernel))
theorem t_r212_0 (h : zSt z S) : pgR 0 0 S (z + 212) = some (z + 213) := e_pgR (t_ok h 212 0 0 rfl).1 (t_rf h 212 0 213 (by decide +kernel))
theorem t_r214_1 (h : zSt z S) : pgR 6 1 S (z + 214) = some (z + 215) := e_pgR (t_ok h 214 6 0 rfl).1 (t_rf h 214 1 215 (by decide +kernel))
theorem t_r214_5 (h : zSt z S) : pgR 6 5 S (z + 214) = some (z + 216) := e_pgR (t_ok h 214 6 0 rfl).1 (t_rf h 214 5 216 (by decide +kernel))
theorem t_r214_6 (h : zSt z S) : pgR 6 6 S (z + 214) = some (z + 217) := e_pgR (t_ok h 214 6 0 rfl).1 (t_rf h 214 6 217 (by decide +kernel))
theorem t_r214_8 (h : zSt z S) : pgR 6 8 S (z + 214) = some (z + 218) := e_pgR (t_ok h 214 6 0 rfl).1 (t_rf h 214 8 218 (by decide +kernel))
theorem t_r214_10 (h : zSt z S) : pgR 6 10 S (z + 214) = some (z + 219) := e_pgR (t_ok h 214 6 0 rfl).1 (t_rf h 214 10 219 (by decide +kernel))
theorem t_a2 (h : zSt z S) (hk : k < 160) : paI S (z + 2) (nI k) = some (mI S (z + 2) k) := e_paI (t_ok h 2 7 160 rfl).1 (t_ok h 2 7 160 rfl).2 hk (by decide)
theorem t_s2 (h : zSt z S) (hk : k < 160) : psI S (z + 2) (nI k) x = some (sI S (z + 2) k x) := e_psI (t_ok h 2 7 160 rfl).1 (t_ok h 2 7 160 rfl).2 hk (by decide)
theorem t_a209 (h : zSt z S) (hk : k < 4) : paI S (z + 209) (nI k) = some (mI S (z + 209) k) := e_paI (t_ok h 209 7 4 rfl).1 (t_ok h 209 7 4 rfl).2 hk (by decide)
theorem t_s209 (h : zSt z S) (hk : k < 4) : psI S (z + 209) (nI k) x = some (sI S (z + 209) k x) := e_psI (t_ok h 209 7 4 rfl).1 (t_ok h 209 7 4 rfl).2 hk (by decide)
theorem t_a211 (h : zSt z S) (hk : k < 120) : paI S (z + 211) (nI k) = some (mI S (z + 211) k) := e_paI (t_ok h 211 7 120 rfl).1 (t_ok h 211 7 120 rfl).2 hk (by decide)
theorem t_s211 (h : zSt z S) (hk : k < 120) : psI S (z + 211) (nI k) x = some (sI S (z + 211) k x) := e_psI (t_ok h 211 7 120 rfl).1 (t_ok h 211 7 120 rfl).2 hk (by decide)
theorem t_a213 (h : zSt z S) (hk : k < 120) : paI S (z + 213) (nI k) = some (mI S (z + 213) k) := e_paI (t_ok h 213 7 120 rfl).1 (t_ok h 213 7 120 rfl).2 hk (by decide)
theorem t_s213 (h : zSt z S) (hk : k < 120) : psI S (z + 213) (nI k) x = some (sI S (z + 213) k x) := e_psI (t_ok h 213 7 120 rfl).1 (t_ok h 213 7 120 rfl).2 hk (by decide)
theorem t_a215 (h : zSt z S) (hk : k < 162) : paI S (z + 215) (nI k) = some (mI S (z + 215) k) := e_paI (t_ok h 215 7 162 rfl).1 (t_ok h 215 7 162 rfl).2 hk (by decide)
theorem t_s215 (h : zSt z S) (hk : k < 162) : psI S (z + 215) (nI k) x = some (sI S (z + 215) k x) := e_psI (t_ok h 215 7 162 rfl).1 (t_ok h 215 7 162 rfl).2 hk (by decide)
theorem t_a216 (h : zSt z S) (hk : k < 1230) : paI S (z + 216) (nI k) = some (mI S (z + 216) k) := e_paI (t_ok h 216 7 1230 rfl).1 (t_ok h 216 7 1230 rfl).2 hk (by decide)
theorem t_s216 (h : zSt z S) (hk : k < 1230) : psI S (z + 216) (nI k) x = some (sI S (z + 216) k x) := e_psI (t_ok h 216 7 1230 rfl).1 (t_ok h 216 7 1230 rfl).2 hk (by decide)
theorem t_a217 (h : zSt z S) (hk : k < 130) : paI S (z + 217) (nI k) = some (mI S (z + 217) k) := e_paI (t_ok h 217 7 130 rfl).1 (t_ok h 217 7 130 rfl).2 hk (by decide)
theorem t_s217 (h : zSt z S) (hk : k < 130) : psI S (z + 217) (nI k) x = some (sI S (z + 217) k x) := e_psI (t_ok h 217 7 130 rfl).1 (t_ok h 217 7 130 rfl).2 hk (by decide)
theorem t_a218 (h : zSt z S) (hk : k < 130) : paI S (z + 218) (nI k) = some (mI S (z + 218) k) := e_paI (t_ok h 218 7 130 rfl).1 (t_ok h 218 7 130 rfl).2 hk (by decide)
theorem t_s218 (h : zSt z S) (hk : k < 130) : psI S (z + 218) (nI k) x = some (sI S (z + 218) k x) := e_psI (t_ok h 218 7 130 rfl).1 (t_ok h 218 7 130 rfl).2 hk (by decide)
theorem t_a219 (h : zSt z S) (hk : k < 8) : paI S (z + 219) (nI k) = some (mI S (z + 219) k) := e_paI (t_ok h 219 7 8 rfl).1 (t_ok h 219 7 8 rfl).2 hk (by decide)
theorem t_s219 (h : zSt z S) (hk : k < 8) : psI S (z + 219) (nI k) x = some (sI S (z + 219) k x) := e_psI (t_ok h 219 7 8 rfl).1 (t_ok h 219 7 8 rfl).2 hk (by decide)
theorem t_a4 (h : zSt z S) (hk : k < 24) : paR S (z + 4) (nI k) = mR S (z + 4) k := e_paR (t_ok h 4 9 24 rfl).1 (t_ok h 4 9 24 rfl).2 hk (by decide)
theorem t_s4 (h : zSt z S) (hk : k < 24) (hv : zVar S v) : psR S (z + 4) (nI k) v = some (sR S (z + 4) k (some v)) := e_psR (t_ok h 4 9 24 rfl).1 (t_ok h 4 9 24 rfl).2 hk (by decide) hv.1
end ZP
/-! literals -/
def m1 : Int32 := -1
theorem l_0 : (0 : Int32) = nI 0 := rfl
theorem l_1 : (1 : Int32) = nI 1 := rfl
theorem l_2 : (2 : Int32) = nI 2 := rfl
theorem l_3 : (3 : Int32) = nI 3 := rfl
theorem l_4 : (4 : Int32) = nI 4 := rfl
theorem l_5 : (5 : Int32) = nI 5 := rfl
theorem l_6 : (6 : Int32) = nI 6 := rfl
theorem l_7 : (7 : Int32) = nI 7 := rfl
theorem l_8 : (8 : Int32) = nI 8 := rfl
theorem l_9 : (9 : Int32) = nI 9 := rfl
theorem l_10 : (10 : Int32) = nI 10 := rfl
theorem l_11 : (11 : Int32) = nI 11 := rfl
theorem l_12 : (12 : Int32) = nI 12 := rfl
theorem l_13 : (13 : Int32) = nI 13 := rfl
theorem l_14 : (14 : Int32) = nI 14 := rfl
theorem l_15 : (15 : Int32) = nI 15 := rfl
theorem l_16 : (16 : Int32) = nI 16 := rfl
theorem l_17 : (17 : Int32) = nI 17 := rfl
theorem l_18 : (18 : Int32) = nI 18 := rfl
theorem l_19 : (19 : Int32) = nI 19 := rfl
theorem l_20 : (20 : Int32) = nI 20 := rfl
theorem l_21 : (21 : Int32) = nI 21 := rfl
theorem l_24 : (24 : Int32) = nI 24 := rfl
theorem l_25 : (25 : Int32) = nI 25 := rfl
theorem l_26 : (26 : Int32) = nI 26 := rfl
theorem l_27 : (27 : Int32) = nI 27 := rfl
theorem l_31 : (31 : Int32) = nI 31 := rfl
theorem l_33 : (33 : Int32) = nI 33 := rfl
theorem l_41 : (41 : Int32) = nI 41 := rfl
theorem l_65 : (65 : Int32) = nI 65 := rfl
theorem l_67 : (67 : Int32) = nI 67 := rfl
theorem l_71 : (71 : Int32) = nI 71 := rfl
theorem l_84 : (84 : Int32) = nI 84 := rfl
theorem l_120 : (120 : Int32) = nI 120 := rfl
theorem l_127 : (127 : Int32) = nI 127 := rfl
theorem l_128 : (128 : Int32) = nI 128 := rfl
theorem l_130 : (130 : Int32) = nI 130 := rfl
theorem l_160 : (160 : Int32) = nI 160 := rfl
theorem l_162 : (162 : Int32) = nI 162 := rfl
theorem l_200 : (200 : Int32) = nI 200 := rfl
theorem l_255 : (255 : Int32) = nI 255 := rfl
theorem l_256 : (256 : Int32) = nI 256 := rfl
theorem l_999 : (999 : Int32) = nI 999 := rfl
theorem l_1000 : (1000 : Int32) = nI 1000 := rfl
theorem l_8000 : (8000 : Int32) = nI 8000 := rfl
theorem l_9999 : (9999 : Int32) = nI 9999 := rfl
theorem l_10000 : (10000 : Int32) = nI 10000 := rfl
theorem l_8001 : (8001 : Int32) = nI 8001 := rfl
theorem l_m1 : -(nI 1) = m1 := rfl
theorem nI_mul (a b : Nat) : nI a * nI b = nI (a * b) := (Int32.ofNat_mul a b).symm
theorem nI_sub {a b : Nat} (h : b ≤ a) : nI a - nI b = nI (a - b) := by
  have e := nI_add (a - b) b
  rw [Nat.sub_add_cancel h] at e
  rw [← e, Int32.add_sub_cancel]
theorem nI_m1 (a : Nat) : nI (a + 1) + m1 = nI a := by
  have e := nI_pred a
  rw [← e, Int32.sub_eq_add_neg]
  rfl
theorem nI_sub1 {a : Nat} (h : 1 ≤ a) : nI a - nI 1 = nI (a - 1) := nI_sub h
theorem m1_lt : m1 < nI 0 := by decide
theorem m1_lt' {a : Nat} (h : a < 2 ^ 31) : m1 < nI a := by
  rw [Int32.lt_iff_toInt_lt, nI_toInt h]
  have : m1.toInt = -1 := by decide
  omega
theorem m1_le' {a : Nat} (h : a < 2 ^ 31) : ¬ nI a ≤ m1 := by
  rw [Int32.le_iff_toInt_le, nI_toInt h]
  have : m1.toInt = -1 := by decide
  omega
theorem m1_ne {a : Nat} (h : a < 2 ^ 31) : ¬ nI a = m1 := by
  intro e
  have := m1_lt' h
  rw [e] at this
  exact absurd this (by decide)
def tn (x : Int32) : Nat := x.toNatClampNeg
theorem tn_nI {a : Nat} (h : a < 2 ^ 31) : tn (nI a) = a := nI_clamp h
theorem nI_tn {x : Int32} (h : ¬ x < 0) : x = nI (tn x) ∧ tn x < 2 ^ 31 := by
  obtain ⟨j, hj, rfl⟩ := nI_of h
  rw [tn_nI hj]
  exact ⟨rfl, hj⟩
theorem up_at {α : Type} (f : Nat → α) (k : Nat) (x : α) (j : Nat) : va_up f k x j = if j = k then x else f j := rfl
theorem up_up {α : Type} (f : Nat → α) (k : Nat) (x y : α) : va_up (va_up f k x) k y = va_up f k y := by
  funext j
  by_cases h : j = k <;> simp [va_up, h]
theorem up_id {α : Type} (f : Nat → α) (k : Nat) : va_up f k (f k) = f := by
  funext j
  by_cases h : j = k <;> simp [va_up, h]

theorem i_le {a b : Nat} (ha : a < 2147483648) (hb : b < 2147483648) : (nI a ≤ nI b) = (a ≤ b) := propext (nI_leI ha hb)
theorem i_lt {a b : Nat} (ha : a < 2147483648) (hb : b < 2147483648) : (nI a < nI b) = (a < b) := propext (nI_ltI ha hb)
theorem i_eq {a b : Nat} (ha : a < 2147483648) (hb : b < 2147483648) : (nI a = nI b) = (a = b) := propext (nI_eq ha hb)
theorem i_m1lt {a : Nat} (ha : a < 2147483648) : (m1 < nI a) = True := eq_true (m1_lt' ha)
theorem i_ltm1 {a : Nat} (ha : a < 2147483648) : (nI a < m1) = False := eq_false (fun h => m1_le' ha (Int32.le_of_lt h))
theorem i_lem1 {a : Nat} (ha : a < 2147483648) : (nI a ≤ m1) = False := eq_false (m1_le' ha)
theorem i_eqm1 {a : Nat} (ha : a < 2147483648) : (nI a = m1) = False := eq_false (m1_ne ha)
theorem i_m1eq {a : Nat} (ha : a < 2147483648) : (m1 = nI a) = False := eq_false (fun h => m1_ne ha h.symm)
