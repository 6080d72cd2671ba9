set_option maxRecDepth 20000
section C12
variable {S S' S1 S2 : Mem} {z v v1 v2 n a lo hi o k : Nat} {x y : Rc} {s : As}
theorem c_unite {p : Nat} {rf : Nat → Nat} (h4 : ∀ i, rf i < 4) (hp : p ≤ 160) (hS : zSt z S) (hv1 : zVar S v1) (hv2 : zVar S v2) (hd1 : v1 + 7 ≤ z + 187) (hd2 : v2 + 7 ≤ z + 187) (hx : zCR S v1 x) (hy : zCR S v2 y) (ox : aOk p rf x) (oy : aOk p rf y) (hP : aP y = aP x) :
    (jJoin x y = none → ∃ S', F_X1_unite (z + 187) v1 v2 S = some (nI 0, S') ∧ zFr (z + 187) (z + 210) S S') ∧ ∀ r, jJoin x y = some r → ∃ S', F_X1_unite (z + 187) v1 v2 S = some (nI 1, S') ∧ zFr (z + 187) (z + 210) S S' ∧ zCR S' (z + 202) r := by
  have kx := ok31 hp ox
  have ky := ok31 hp oy
  have nx := ox.1.1
  have ny := oy.1.1
  obtain ⟨S1, a1, a2, a3⟩ := c_copy (v := z + 188) (v_j1 hS) hv1 (by omega) hx kx.2.2.1 kx.2.2.2
  have hS1 := zSt_Fr a2 hS
  obtain ⟨S2, b1, b2, b3⟩ := c_copy (v := z + 195) (v_j2 hS1) (zVar_Fr a2 hv2) (by omega) (zCR_Fr a2 (by omega) hy) ky.2.2.1 ky.2.2.2
  have hS2 := zSt_Fr b2 hS1
  have x2 := zCR_Fr b2 (by omega) a3
  have w2 : zVar S2 v2 := zVar_Fr b2 (zVar_Fr a2 hv2)
  have y2 : zCR S2 v2 y := zCR_Fr b2 (by omega) (zCR_Fr a2 (by omega) hy)
  obtain ⟨S3, c1, c2, c3⟩ := c_len (v_j1 hS2) w2 x2 y2 ox oy
  have hS3 := zSt_Fr c2 hS2
  have w3 : zVar S3 v1 := zVar_Fr c2 (zVar_Fr b2 (zVar_Fr a2 hv1))
  have x3 : zCR S3 v1 x := zCR_Fr c2 (by omega) (zCR_Fr b2 (by omega) (zCR_Fr a2 (by omega) hx))
  obtain ⟨S4, d1, d2, d3⟩ := c_len (v_j2 hS3) w3 (zCR_Fr c2 (by omega) b3) x3 oy ox
  have hS4 := zSt_Fr d2 hS3
  have x4 := zCR_Fr d2 (by omega) c3
  have F4 : zFr (z + 187) (z + 210) S S4 := zFr_trans (zFr_mono a2 (by omega) (by omega)) (zFr_trans (zFr_mono b2 (by omega) (by omega)) (zFr_trans (zFr_mono c2 (by omega) (by omega)) (zFr_mono d2 (by omega) (by omega))))
  have lx : ∀ i, i < aN x → jL x y i ≤ 100 := fun i hi => by
    have := (ox.2.1.1 i hi).2.1
    have := (oy.2.1.1 0 (by omega)).2.1
    unfold jL; omega
  have ly : ∀ i, i < aN y → jL y x i ≤ 100 := fun i hi => by
    have := (oy.2.1.1 i hi).2.1
    have := (ox.2.1.1 0 (by omega)).2.1
    unfold jL; omega
  have t1 := c_tooL (L := jL x y) (n := aN x) (v_j1 hS4) x4.1.2.2 kx.2.2.1 (fun i hi => ⟨(x4.2.1 i hi).2.1, lx i hi⟩)
  have t2 := c_tooL (L := jL y x) (n := aN y) (v_j2 hS4) d3.1.2.2 ky.2.2.1 (fun i hi => ⟨(d3.2.1 i hi).2.1, ly i hi⟩)
  by_cases e1 : ∃ i, i < aN x ∧ 8 < jL x y i
  · have hj : jJoin x y = none := if_pos (Or.inl e1)
    rw [if_pos e1] at t1
    refine ⟨fun _ => ⟨S4, ?_, F4⟩, fun r q => by rw [hj] at q; cases q⟩
    simp only [F_X1_unite, l_0, l_1, l_2, l_3, l_4, l_5, l_6, l_7, l_8, l_9, l_10, l_11, l_12, l_13, l_14, l_15, l_16, l_17, l_18, l_19, l_20, l_21, l_24, l_25, l_26, l_27, l_31, l_33, l_41, l_65, l_67, l_71, l_84, l_120, l_127, l_128, l_130, l_160, l_162, l_200, l_255, l_256, l_999, l_1000, l_8000, l_9999, l_10000, l_8001, l_m1, t_k0, t_g0, t_p0, t_z0, t_k1, t_g1, t_p1, t_z1, t_k3, t_g3, t_p3, t_z3, t_k187, t_g187, t_p187, t_z187, t_k210, t_g210, t_p210, t_z210, t_k212, t_g212, t_p212, t_z212, t_k214, t_g214, t_p214, t_z214, t_r0_0, t_r0_1, t_r0_2, t_r0_4, t_r0_5, t_r0_6, t_r0_7, t_r1_0, t_r3_0, t_r187_0, t_r187_1, t_r187_2, t_r187_3, t_r210_0, t_r212_0, t_r214_1, t_r214_5, t_r214_6, t_r214_8, t_r214_10, t_a2, t_s2, t_a209, t_s209, t_a211, t_s211, t_a213, t_s213, t_a215, t_s215, t_a216, t_s216, t_a217, t_s217, t_a218, t_s218, t_a219, t_s219, t_a4, t_s4, zSt_sI, zSt_sF, zSt_zI, zSt_sJ, zSt_sD, zBo_0, zBo_1, hS, hS1, hS2, hS3, hS4, v_pk (v_j1 hS), v_pk (v_j2 hS1), v_pk (v_j1 hS2), v_pk (v_j2 hS3), v_pk (v_j1 hS4), a1, b1, c1, d1, t1, ne10, bd2_some, bdx_inl, bdx_inr, bdc_inl, bdc_inr, obd_some, ↓reduceIte]
  rw [if_neg e1] at t1
  by_cases e2 : ∃ i, i < aN y ∧ 8 < jL y x i
  · have hj : jJoin x y = none := if_pos (Or.inr e2)
    rw [if_pos e2] at t2
    refine ⟨fun _ => ⟨S4, ?_, F4⟩, fun r q => by rw [hj] at q; cases q⟩
    simp only [F_X1_unite, l_0, l_1, l_2, l_3, l_4, l_5, l_6, l_7, l_8, l_9, l_10, l_11, l_12, l_13, l_14, l_15, l_16, l_17, l_18, l_19, l_20, l_21, l_24, l_25, l_26, l_27, l_31, l_33, l_41, l_65, l_67, l_71, l_84, l_120, l_127, l_128, l_130, l_160, l_162, l_200, l_255, l_256, l_999, l_1000, l_8000, l_9999, l_10000, l_8001, l_m1, t_k0, t_g0, t_p0, t_z0, t_k1, t_g1, t_p1, t_z1, t_k3, t_g3, t_p3, t_z3, t_k187, t_g187, t_p187, t_z187, t_k210, t_g210, t_p210, t_z210, t_k212, t_g212, t_p212, t_z212, t_k214, t_g214, t_p214, t_z214, t_r0_0, t_r0_1, t_r0_2, t_r0_4, t_r0_5, t_r0_6, t_r0_7, t_r1_0, t_r3_0, t_r187_0, t_r187_1, t_r187_2, t_r187_3, t_r210_0, t_r212_0, t_r214_1, t_r214_5, t_r214_6, t_r214_8, t_r214_10, t_a2, t_s2, t_a209, t_s209, t_a211, t_s211, t_a213, t_s213, t_a215, t_s215, t_a216, t_s216, t_a217, t_s217, t_a218, t_s218, t_a219, t_s219, t_a4, t_s4, zSt_sI, zSt_sF, zSt_zI, zSt_sJ, zSt_sD, zBo_0, zBo_1, hS, hS1, hS2, hS3, hS4, v_pk (v_j1 hS), v_pk (v_j2 hS1), v_pk (v_j1 hS2), v_pk (v_j2 hS3), v_pk (v_j1 hS4), v_pk (v_j2 hS4), a1, b1, c1, d1, t1, t2, ne10, bd2_some, bdx_inl, bdx_inr, bdc_inl, bdc_inr, obd_some, ↓reduceIte]
  rw [if_neg e2] at t2
  have l8x : ∀ i, i < aN x → jL x y i ≤ 8 := fun i hi => Nat.not_lt.mp (fun q => e1 ⟨i, hi, q⟩)
  have l8y : ∀ i, i < aN y → jL y x i ≤ 8 := fun i hi => Nat.not_lt.mp (fun q => e2 ⟨i, hi, q⟩)
  obtain ⟨jx1, jx2⟩ := j_len (o := y) ox.2.1
  obtain ⟨jy1, jy2⟩ := j_len (o := x) oy.2.1
  obtain ⟨S5, f1, f2, f3⟩ := c_copy (v := z + 202) (v_jj hS4) (v_j1 hS4) (by omega) x4 kx.2.2.1 kx.2.2.2
  have hS5 := zSt_Fr f2 hS4
  have x5 := zCR_Fr f2 (by omega) x4
  have y5 := zCR_Fr f2 (by omega) d3
  have F5 : zFr (z + 187) (z + 210) S S5 := zFr_trans F4 (zFr_mono f2 (by omega) (by omega))
  have bx : ∀ i, i < aN x → jB x y i < 2147483648 := fun i hi => by
    have := (jx1 i hi).2
    have := p4_8 (l8x i hi)
    omega
  have by' : ∀ i, i < aN y → jB y x i < 2147483648 := fun i hi => by
    have := (jy1 i hi).2
    have := p4_8 (l8y i hi)
    omega
  have G := c_uA_L (z := z) (y := wAl y (aP y) (jL y x) (jB y x)) (n1 := aN x) (Lx := jL x y) (Bx := jB x y) ky.2.2.1 (fun i hi => ⟨by' i hi, by have := l8y i hi; show jL y x i < 2147483648; omega⟩) jy2 (aN y) FU 0 (aN x) (jL x y) (jB x y) (fun _ => 0) (aD x) S5 hS5 y5 ⟨f3.1.2.2, kx.2.2.1, fun i hi => ⟨(f3.2.1 i hi).1, (f3.2.1 i hi).2.1, (f3.2.1 i hi).2.2, bx i hi, by have := l8x i hi; omega⟩⟩ (fun i hi => by omega) (jInv_0 kx.2.2.1 ox.2.1 _) (fun b hb => by omega) (by show 0 + aN y = aN y; omega) (by have := ky.2.2.1; show aN y < 4000; omega)
  have hjj : jJoin x y = (jAdd (jL y x) (jB y x) (aN y) 0 (aN x) (jL x y) (jB x y) (fun _ => 0)).map fun t => jRec x y t.1 t.2.1 t.2.2.1 t.2.2.2 := if_neg (fun q => q.elim e1 e2)
  cases ej : jAdd (jL y x) (jB y x) (aN y) 0 (aN x) (jL x y) (jB x y) (fun _ => 0) with
  | none =>
    have hj : jJoin x y = none := by rw [hjj, ej]; rfl
    obtain ⟨S6, g1, g2⟩ := G.1 ej
    refine ⟨fun _ => ⟨S6, ?_, zFr_trans F5 (zFr_mono g2.1 (by omega) (by omega))⟩, fun r q => by rw [hj] at q; cases q⟩
    have g1' : F_X1_uniteAlleles (z + 187) S5 = some (nI 0, S6) := g1
    simp only [F_X1_unite, l_0, l_1, l_2, l_3, l_4, l_5, l_6, l_7, l_8, l_9, l_10, l_11, l_12, l_13, l_14, l_15, l_16, l_17, l_18, l_19, l_20, l_21, l_24, l_25, l_26, l_27, l_31, l_33, l_41, l_65, l_67, l_71, l_84, l_120, l_127, l_128, l_130, l_160, l_162, l_200, l_255, l_256, l_999, l_1000, l_8000, l_9999, l_10000, l_8001, l_m1, t_k0, t_g0, t_p0, t_z0, t_k1, t_g1, t_p1, t_z1, t_k3, t_g3, t_p3, t_z3, t_k187, t_g187, t_p187, t_z187, t_k210, t_g210, t_p210, t_z210, t_k212, t_g212, t_p212, t_z212, t_k214, t_g214, t_p214, t_z214, t_r0_0, t_r0_1, t_r0_2, t_r0_4, t_r0_5, t_r0_6, t_r0_7, t_r1_0, t_r3_0, t_r187_0, t_r187_1, t_r187_2, t_r187_3, t_r210_0, t_r212_0, t_r214_1, t_r214_5, t_r214_6, t_r214_8, t_r214_10, t_a2, t_s2, t_a209, t_s209, t_a211, t_s211, t_a213, t_s213, t_a215, t_s215, t_a216, t_s216, t_a217, t_s217, t_a218, t_s218, t_a219, t_s219, t_a4, t_s4, zSt_sI, zSt_sF, zSt_zI, zSt_sJ, zSt_sD, zBo_0, zBo_1, hS, hS1, hS2, hS3, hS4, hS5, v_pk (v_j1 hS), v_pk (v_j2 hS1), v_pk (v_j1 hS2), v_pk (v_j2 hS3), v_pk (v_j1 hS4), v_pk (v_j2 hS4), v_pk (v_jj hS4), a1, b1, c1, d1, t1, t2, f1, g1', ne10, bd2_some, bdx_inl, bdx_inr, bdc_inl, bdc_inr, obd_some, ↓reduceIte]
  | some t =>
    have hj : jJoin x y = some (jRec x y t.1 t.2.1 t.2.2.1 t.2.2.2) := by rw [hjj, ej]; rfl
    refine ⟨fun q => (by rw [hj] at q; cases q), fun r q => ?_⟩
    rw [hj] at q
    cases q
    have hI : jInv (aN x) (jL x y) (jB x y) (jL y x) (jB y x) (aN y) t.1 t.2.1 t.2.2.1 t.2.2.2 := by
      have := jAdd_inv (aN y) 0 (aN x) (jL x y) (jB x y) (fun _ => 0) t (jInv_0 kx.2.2.1 ox.2.1 _) ej
      rw [Nat.zero_add] at this
      exact this
    obtain ⟨w0, winj⟩ := jInv_w h4 ox oy hP hI
    obtain ⟨S6, D', g1, g2, g3, g4, g5, g6⟩ := G.2 t ej
    have g1' : F_X1_uniteAlleles (z + 187) S5 = some (nI 1, S6) := g1
    have hS6 := zSt_Fr g2.1 hS5
    have x6 := zCR_Fr g2.1 (by omega) x5
    have y6 := zCR_Fr g2.1 (by omega) y5
    obtain ⟨vx1, vx2, vx3, vx4, vx5⟩ := ox.2.2.2
    obtain ⟨vy1, vy2, vy3, vy4, vy5⟩ := oy.2.2.2
    have qx := x6.1.2.1
    have qy := y6.1.2.1
    have qx' : mI S6 (z + 188) 1 = nI (aQ x) := qx
    have qy' : mI S6 (z + 195) 1 = nI (aQ y) := qy
    have eQ : (if nI (aQ x) < nI (aQ y) then nI (aQ y) else nI (aQ x)) = nI (max (aQ x) (aQ y)) := by
      have q0 := i_lt (a := aQ x) (b := aQ y) (by omega) (by omega)
      by_cases c : aQ x < aQ y
      · rw [if_pos (by rw [q0]; exact c)]; congr 1; omega
      · rw [if_neg (by rw [q0]; exact c)]; congr 1; omega
    have f7 : zFr (z + 202) (z + 203) S6 (sI S6 (z + 202) 1 (nI (max (aQ x) (aQ y)))) := zFr_sI (by omega) (by omega)
    have hS7 := zSt_Fr f7 hS6
    have x7 := zCR_Fr f7 (by omega) x6
    have y7 := zCR_Fr f7 (by omega) y6
    obtain ⟨S8, h1, h2, h3⟩ := c_uD (z := z) (x := wAl x (aP x) (jL x y) (jB x y)) (y := wAl y (aP y) (jL y x) (jB y x)) (w := t.2.2.2) (n := t.1) (D := D') (L := t.2.1) (B := t.2.2.1) kx.2.2.1 ky.2.2.1 vx2 vy2 (fun b hb => (hI.2.2.1 b hb).1) hI.1.1 hI.1.2 w0 winj (by show 1 ≤ aN x; omega) (by show 1 ≤ aN y; omega) hI.2.2.2.1 hS7 x7 y7 (fun i hi => by rw [f7.2 _ (by omega)]; exact g4 i hi) (fun i hi => by rw [f7.2 _ (by omega)]; exact (g3.2.2 i hi).2.2.1) g5 g6
    have hS8 := zSt_Fr h2 hS7
    have x8 := zCR_Fr h2 (by omega) x7
    have y8 := zCR_Fr h2 (by omega) y7
    obtain ⟨S9, i1, i2, i3, i4⟩ := c_uG (z := z) (x := wAl x (aP x) (jL x y) (jB x y)) (y := wAl y (aP y) (jL y x) (jB y x)) (w := t.2.2.2) (n := t.1) (L := t.2.1) (B := t.2.2.1) hS8 x8 y8 (fun i hi => by have := vx3 i hi; show aG x i ≤ 4; omega) vy3 vx4 vy4 ky.2.2.1 (fun i hi => by rw [h2.2 _ (by omega), f7.2 _ (by omega)]; exact g4 i hi)
    have hS9 := zSt_Fr i2 hS8
    have x9 := zCR_Fr i2 (by omega) x8
    have y9 := zCR_Fr i2 (by omega) y8
    obtain ⟨S10, j1, j2, j3⟩ := c_uK (z := z) (x := wAl x (aP x) (jL x y) (jB x y)) (y := wAl y (aP y) (jL y x) (jB y x)) (w := t.2.2.2) (n := t.1) (L := t.2.1) (B := t.2.2.1) kx.2.2.1 ky.2.2.1 (fun b hb => (hI.2.2.1 b hb).1) hI.1.2 winj vx5 vy5 hS9 x9 y9 (fun i hi => by rw [i2.2 _ (by omega), h2.2 _ (by omega), f7.2 _ (by omega)]; exact g4 i hi)
    have hJ6 := v_jj hS6
    refine ⟨S10, ?_, zFr_trans F5 (zFr_trans (zFr_mono g2.1 (by omega) (by omega)) (zFr_trans (zFr_mono f7 (by omega) (by omega)) (zFr_trans (zFr_mono h2 (by omega) (by omega)) (zFr_trans (zFr_mono i2 (by omega) (by omega)) (zFr_mono j2 (by omega) (by omega)))))), ?_⟩
    · simp only [F_X1_unite, l_0, l_1, l_2, l_3, l_4, l_5, l_6, l_7, l_8, l_9, l_10, l_11, l_12, l_13, l_14, l_15, l_16, l_17, l_18, l_19, l_20, l_21, l_24, l_25, l_26, l_27, l_31, l_33, l_41, l_65, l_67, l_71, l_84, l_120, l_127, l_128, l_130, l_160, l_162, l_200, l_255, l_256, l_999, l_1000, l_8000, l_9999, l_10000, l_8001, l_m1, t_k0, t_g0, t_p0, t_z0, t_k1, t_g1, t_p1, t_z1, t_k3, t_g3, t_p3, t_z3, t_k187, t_g187, t_p187, t_z187, t_k210, t_g210, t_p210, t_z210, t_k212, t_g212, t_p212, t_z212, t_k214, t_g214, t_p214, t_z214, t_r0_0, t_r0_1, t_r0_2, t_r0_4, t_r0_5, t_r0_6, t_r0_7, t_r1_0, t_r3_0, t_r187_0, t_r187_1, t_r187_2, t_r187_3, t_r210_0, t_r212_0, t_r214_1, t_r214_5, t_r214_6, t_r214_8, t_r214_10, t_a2, t_s2, t_a209, t_s209, t_a211, t_s211, t_a213, t_s213, t_a215, t_s215, t_a216, t_s216, t_a217, t_s217, t_a218, t_s218, t_a219, t_s219, t_a4, t_s4, zSt_sI, zSt_sF, zSt_zI, zSt_sJ, zSt_sD, zBo_0, zBo_1, hS, hS1, hS2, hS3, hS4, hS5, hS6, hS8, hS9, v_pk (v_j1 hS), v_pk (v_j2 hS1), v_pk (v_j1 hS2), v_pk (v_j2 hS3), v_pk (v_j1 hS4), v_pk (v_j2 hS4), v_pk (v_jj hS4), a1, b1, c1, d1, t1, t2, f1, g1', ne10, v_gI (v_j1 hS6), v_gI (v_j2 hS6), v_pI hJ6, qx', qy', eQ, h1, i1, j1, bd2_some, bdx_inl, bdx_inr, bdc_inl, bdc_inr, obd_some, ↓reduceIte]
    · have row0 : mI S10 (z + 202) = mI (sI S6 (z + 202) 1 (nI (max (aQ x) (aQ y)))) (z + 202) := by
        rw [j2.2 _ (by omega), i2.2 _ (by omega), h2.2 _ (by omega)]
      have rowk : ∀ t, t = 1 ∨ t = 2 → mI S10 (z + 202 + t) = mI S6 (z + 202 + t) := by
        intro t ht
        rw [j2.2 _ (by omega), i2.2 _ (by omega), h2.2 _ (by omega), f7.2 _ (by omega)]
      refine ⟨⟨?_, ?_, ?_⟩, fun i hi => ⟨?_, ?_, ?_⟩, fun i hi => ?_, fun i hi => ?_, fun i hi => ?_⟩
      · rw [row0, mI_sI, if_neg (by omega), g2.2]; exact f3.1.1
      · rw [row0, mI_sI, if_pos ⟨rfl, rfl⟩]; rfl
      · rw [row0, mI_sI, if_neg (by omega)]; exact g3.1
      · rw [rowk 1 (by omega)]; exact (g3.2.2 i hi).1
      · rw [rowk 2 (by omega)]; exact (g3.2.2 i hi).2.1
      · rw [j2.2 _ (by omega), i2.2 _ (by omega)]; exact h3 i hi
      · rw [j2.2 _ (by omega)]; exact i3 i hi
      · rw [j2.2 _ (by omega)]; exact i4 i hi
      · exact j3 i hi
theorem C_join {i : Int32} (hs : xOk s) (h : zCl z s S) : ∃ S', F_L_join z i S = some ((o_join s i).1, S') ∧ zCl z (o_join s i).2 S' ∧ zCf z S S' := by
  obtain ⟨hS, ⟨pp, hL⟩, hR, hD, hT⟩ := id h
  have hl24 := hs.2.2.2.2.1
  have hreq := c_req (i := i) hS hL.2.1
  by_cases c : i < nI 0 ∨ nI (xL s).length ≤ i
  · rw [if_pos c] at hreq
    rw [show o_join s i = (nI 1, s) from if_pos c]
    refine ⟨S, ?_, h, zCf_refl hS⟩
    simp only [F_L_join, F_X5_join, l_0, l_1, l_2, l_3, l_4, l_5, l_6, l_7, l_8, l_9, l_10, l_11, l_12, l_13, l_14, l_15, l_16, l_17, l_18, l_19, l_20, l_21, l_24, l_25, l_26, l_27, l_31, l_33, l_41, l_65, l_67, l_71, l_84, l_120, l_127, l_128, l_130, l_160, l_162, l_200, l_255, l_256, l_999, l_1000, l_8000, l_9999, l_10000, l_8001, l_m1, t_k0, t_g0, t_p0, t_z0, t_k1, t_g1, t_p1, t_z1, t_k3, t_g3, t_p3, t_z3, t_k187, t_g187, t_p187, t_z187, t_k210, t_g210, t_p210, t_z210, t_k212, t_g212, t_p212, t_z212, t_k214, t_g214, t_p214, t_z214, t_r0_0, t_r0_1, t_r0_2, t_r0_4, t_r0_5, t_r0_6, t_r0_7, t_r1_0, t_r3_0, t_r187_0, t_r187_1, t_r187_2, t_r187_3, t_r210_0, t_r212_0, t_r214_1, t_r214_5, t_r214_6, t_r214_8, t_r214_10, t_a2, t_s2, t_a209, t_s209, t_a211, t_s211, t_a213, t_s213, t_a215, t_s215, t_a216, t_s216, t_a217, t_s217, t_a218, t_s218, t_a219, t_s219, t_a4, t_s4, zSt_sI, zSt_sF, zSt_zI, zSt_sJ, zSt_sD, zBo_0, zBo_1, hS, bd2_some, bdx_inl, bdx_inr, bdc_inl, bdc_inr, obd_some, hreq, ↓reduceIte]
  rw [if_neg c] at hreq
  have cs := c
  obtain ⟨i', rfl, -, b3⟩ := in_of' (by omega) (fun e => c (Or.inl e)) (fun e => c (Or.inr e)) (by omega)
  have t1 : tn (nI i') = i' := tn_nI (by omega)
  by_cases c2 : (xL s).length ≤ i' + 1
  · have c2' : nI (xL s).length ≤ nI (i' + 1) := nI_le c2 (by omega)
    rw [show o_join s (nI i') = (nI 2, s) from by unfold o_join; rw [if_neg cs, t1, if_pos (Or.inl c2)]]
    refine ⟨S, ?_, h, zCf_refl hS⟩
    simp only [F_L_join, F_X5_join, l_0, l_1, l_2, l_3, l_4, l_5, l_6, l_7, l_8, l_9, l_10, l_11, l_12, l_13, l_14, l_15, l_16, l_17, l_18, l_19, l_20, l_21, l_24, l_25, l_26, l_27, l_31, l_33, l_41, l_65, l_67, l_71, l_84, l_120, l_127, l_128, l_130, l_160, l_162, l_200, l_255, l_256, l_999, l_1000, l_8000, l_9999, l_10000, l_8001, l_m1, t_k0, t_g0, t_p0, t_z0, t_k1, t_g1, t_p1, t_z1, t_k3, t_g3, t_p3, t_z3, t_k187, t_g187, t_p187, t_z187, t_k210, t_g210, t_p210, t_z210, t_k212, t_g212, t_p212, t_z212, t_k214, t_g214, t_p214, t_z214, t_r0_0, t_r0_1, t_r0_2, t_r0_4, t_r0_5, t_r0_6, t_r0_7, t_r1_0, t_r3_0, t_r187_0, t_r187_1, t_r187_2, t_r187_3, t_r210_0, t_r212_0, t_r214_1, t_r214_5, t_r214_6, t_r214_8, t_r214_10, t_a2, t_s2, t_a209, t_s209, t_a211, t_s211, t_a213, t_s213, t_a215, t_s215, t_a216, t_s216, t_a217, t_s217, t_a218, t_s218, t_a219, t_s219, t_a4, t_s4, zSt_sI, zSt_sF, zSt_zI, zSt_sJ, zSt_sD, zBo_0, zBo_1, hS, bd2_some, bdx_inl, bdx_inr, bdc_inl, bdc_inr, obd_some, hreq, hL.2.1, nI_add, c2', ↓reduceIte, String.reduceEq]
  have c2' : ¬ nI (xL s).length ≤ nI (i' + 1) := nI_ge (by omega) (by omega)
  obtain ⟨g1, g2⟩ := xAt_ok hs b3
  obtain ⟨k1, k2⟩ := xAt_ok hs (show i' + 1 < (xL s).length by omega)
  obtain ⟨p1, p2⟩ := hL.1.1 i' (by omega)
  obtain ⟨r1, r2⟩ := hL.1.1 (i' + 1) (by omega)
  have hi24 : i' < 24 := by omega
  have hj24 : i' + 1 < 24 := by omega
  have hv : zVar S (z + 5 + 7 * pp i') := t_vi hS (by omega)
  have hw : zVar S (z + 5 + 7 * pp (i' + 1)) := t_vi hS (by omega)
  have hx := hL.2.2 i' _ g1
  have hy := hL.2.2 (i' + 1) _ k1
  have o1 := ok31 hs.1 g2
  have o2 := ok31 hs.1 k2
  by_cases c3 : aP (xAt s (i' + 1)) = aP (xAt s i')
  · have cc : ¬ ((xL s).length ≤ i' + 1 ∨ aP (xAt s (i' + 1)) ≠ aP (xAt s i')) := by
      rintro (q | q)
      · exact c2 q
      · exact q c3
    have hy0 := hy.1.1
    rw [c3] at hy0
    have U := c_unite (z := z) hs.2.1 hs.1 hS hv hw (by omega) (by omega) hx hy g2 k2 c3
    cases ej : jJoin (xAt s i') (xAt s (i' + 1)) with
    | none =>
      obtain ⟨S1, u1, u2⟩ := U.1 ej
      rw [show o_join s (nI i') = (nI 3, s) from by unfold o_join; rw [if_neg cs, t1, if_neg cc, ej]]
      refine ⟨S1, ?_, ?_, zCf_Fr hS u2 (by omega)⟩
      · simp only [F_L_join, F_X5_join, l_0, l_1, l_2, l_3, l_4, l_5, l_6, l_7, l_8, l_9, l_10, l_11, l_12, l_13, l_14, l_15, l_16, l_17, l_18, l_19, l_20, l_21, l_24, l_25, l_26, l_27, l_31, l_33, l_41, l_65, l_67, l_71, l_84, l_120, l_127, l_128, l_130, l_160, l_162, l_200, l_255, l_256, l_999, l_1000, l_8000, l_9999, l_10000, l_8001, l_m1, t_k0, t_g0, t_p0, t_z0, t_k1, t_g1, t_p1, t_z1, t_k3, t_g3, t_p3, t_z3, t_k187, t_g187, t_p187, t_z187, t_k210, t_g210, t_p210, t_z210, t_k212, t_g212, t_p212, t_z212, t_k214, t_g214, t_p214, t_z214, t_r0_0, t_r0_1, t_r0_2, t_r0_4, t_r0_5, t_r0_6, t_r0_7, t_r1_0, t_r3_0, t_r187_0, t_r187_1, t_r187_2, t_r187_3, t_r210_0, t_r212_0, t_r214_1, t_r214_5, t_r214_6, t_r214_8, t_r214_10, t_a2, t_s2, t_a209, t_s209, t_a211, t_s211, t_a213, t_s213, t_a215, t_s215, t_a216, t_s216, t_a217, t_s217, t_a218, t_s218, t_a219, t_s219, t_a4, t_s4, zSt_sI, zSt_sF, zSt_zI, zSt_sJ, zSt_sD, zBo_0, zBo_1, hS, bd2_some, bdx_inl, bdx_inr, bdc_inl, bdc_inr, obd_some, hreq, hL.2.1, nI_add, c2', hi24, hj24, p2, r2, v_gI hv, v_gI hw, hx.1.1, hy0, u1, ↓reduceIte, String.reduceEq]
      · exact zCl_list h (zSt_Fr u2 hS) ⟨pp, zLv_of (by rw [zFr_R u2]) (fun a h1 h2 => u2.2 a (by omega)) hl24 hL⟩ (fun a ha => u2.2 a (by omega))
    | some r =>
      obtain ⟨S1, u1, u2, u3⟩ := U.2 r ej
      have hS1 := zSt_Fr u2 hS
      have hL1 : zLv z S1 pp (xL s) := zLv_of (by rw [zFr_R u2]) (fun a h1 h2 => u2.2 a (by omega)) hl24 hL
      obtain ⟨S2, q2, w1, w2, w3, w4, w5⟩ := c_erase (at' := i' + 1) hS1 hL1 (by omega) hl24
      have hS2 := w2.1
      have hq := w5 i' (by omega)
      obtain ⟨m1', m2'⟩ := w4.1.1 i' hi24
      have hv2 : zVar S2 (z + 5 + 7 * q2 i') := t_vi hS2 (by omega)
      have hok : aOk (xP s) (xF s) r := by
        have nx := g2.1.1
        by_cases e : (∃ i, i < aN (xAt s i') ∧ 8 < jL (xAt s i') (xAt s (i' + 1)) i) ∨ ∃ i, i < aN (xAt s (i' + 1)) ∧ 8 < jL (xAt s (i' + 1)) (xAt s i') i
        · rw [show jJoin (xAt s i') (xAt s (i' + 1)) = none from if_pos e] at ej; cases ej
        · have hjj : jJoin (xAt s i') (xAt s (i' + 1)) = _ := if_neg e
          rw [hjj] at ej
          obtain ⟨t, e1, e2⟩ := Option.map_eq_some_iff.mp ej
          have hI := jAdd_inv _ 0 _ _ _ (fun _ => 0) t (jInv_0 g2.1.2 g2.2.1 _) e1
          rw [Nat.zero_add] at hI
          rw [← e2]
          exact j_ok hs.2.1 g2 k2 c3 (fun i hi => Nat.not_lt.mp (fun q => e (Or.inl ⟨i, hi, q⟩))) (fun i hi => Nat.not_lt.mp (fun q => e (Or.inr ⟨i, hi, q⟩))) hI
      have o3 := ok31 hs.1 hok
      obtain ⟨S3, y1, y2, y3⟩ := c_copy (v := z + 5 + 7 * q2 i') (w := z + 202) hv2 (v_jj hS2) (by omega) (zCR_of (S := S1) (v := z + 202) (fun t ht => w3 _ (by omega)) u3) o3.2.2.1 o3.2.2.2
      have hS3 := zSt_Fr y2 hS2
      rw [show o_join s (nI i') = (nI 0, wList s (((xL s).eraseIdx (i' + 1)).set i' r)) from by unfold o_join; rw [if_neg cs, t1, if_neg cc, ej]]
      have rows : ∀ a, (a < z + 3 ∨ z + 173 ≤ a) → (a < z + 187 ∨ z + 210 ≤ a) → mI S3 a = mI S a := by
        intro a h1 h2
        rw [y2.2 a (by omega), w3 a (by omega), u2.2 a (by omega)]
      refine ⟨S3, ?_, ?_, ⟨hS3, fun a ha => rows a (by omega) (by omega)⟩⟩
      · simp only [F_L_join, F_X5_join, l_0, l_1, l_2, l_3, l_4, l_5, l_6, l_7, l_8, l_9, l_10, l_11, l_12, l_13, l_14, l_15, l_16, l_17, l_18, l_19, l_20, l_21, l_24, l_25, l_26, l_27, l_31, l_33, l_41, l_65, l_67, l_71, l_84, l_120, l_127, l_128, l_130, l_160, l_162, l_200, l_255, l_256, l_999, l_1000, l_8000, l_9999, l_10000, l_8001, l_m1, t_k0, t_g0, t_p0, t_z0, t_k1, t_g1, t_p1, t_z1, t_k3, t_g3, t_p3, t_z3, t_k187, t_g187, t_p187, t_z187, t_k210, t_g210, t_p210, t_z210, t_k212, t_g212, t_p212, t_z212, t_k214, t_g214, t_p214, t_z214, t_r0_0, t_r0_1, t_r0_2, t_r0_4, t_r0_5, t_r0_6, t_r0_7, t_r1_0, t_r3_0, t_r187_0, t_r187_1, t_r187_2, t_r187_3, t_r210_0, t_r212_0, t_r214_1, t_r214_5, t_r214_6, t_r214_8, t_r214_10, t_a2, t_s2, t_a209, t_s209, t_a211, t_s211, t_a213, t_s213, t_a215, t_s215, t_a216, t_s216, t_a217, t_s217, t_a218, t_s218, t_a219, t_s219, t_a4, t_s4, zSt_sI, zSt_sF, zSt_zI, zSt_sJ, zSt_sD, zBo_0, zBo_1, hS, hS1, hS2, bd2_some, bdx_inl, bdx_inr, bdc_inl, bdc_inr, obd_some, hreq, hL.2.1, nI_add, c2', hi24, hj24, p2, r2, v_gI hv, v_gI hw, hx.1.1, hy0, u1, ne10, w1, m2', v_pk hv2, y1, ↓reduceIte]
      · refine zCl_list h hS3 ⟨q2, ⟨fun i hi => ?_, w4.1.2⟩, ?_, fun i t hi => ?_⟩ (fun a ha => rows a (by omega) (by omega))
        · rw [zFr_R y2]; exact w4.1.1 i hi
        · rw [y2.2 _ (by omega), List.length_set]; exact w4.2.1
        · have hlen : i < (((xL s).eraseIdx (i' + 1)).set i' r).length := (List.getElem?_eq_some_iff.mp hi).1
          rw [List.length_set, List.length_eraseIdx_of_lt (by omega)] at hlen
          rw [List.getElem?_set] at hi
          by_cases e : i' = i
          · subst e
            rw [if_pos rfl] at hi
            split at hi
            · cases hi; exact y3
            · cases hi
          · rw [if_neg e] at hi
            have n1 := (w4.1.1 i (by omega)).1
            have ne : q2 i ≠ q2 i' := fun q => e (w4.1.2 _ _ (by omega) hi24 q).symm
            exact zCR_Fr y2 (by omega) (w4.2.2 i t hi)
  · have cc : (xL s).length ≤ i' + 1 ∨ aP (xAt s (i' + 1)) ≠ aP (xAt s i') := Or.inr c3
    have c3' : ¬ nI (aP (xAt s (i' + 1))) = nI (aP (xAt s i')) := fun q => c3 ((nI_eq (by omega) (by omega)).mp q)
    rw [show o_join s (nI i') = (nI 2, s) from by unfold o_join; rw [if_neg cs, t1, if_pos cc]]
    refine ⟨S, ?_, h, zCf_refl hS⟩
    simp only [F_L_join, F_X5_join, l_0, l_1, l_2, l_3, l_4, l_5, l_6, l_7, l_8, l_9, l_10, l_11, l_12, l_13, l_14, l_15, l_16, l_17, l_18, l_19, l_20, l_21, l_24, l_25, l_26, l_27, l_31, l_33, l_41, l_65, l_67, l_71, l_84, l_120, l_127, l_128, l_130, l_160, l_162, l_200, l_255, l_256, l_999, l_1000, l_8000, l_9999, l_10000, l_8001, l_m1, t_k0, t_g0, t_p0, t_z0, t_k1, t_g1, t_p1, t_z1, t_k3, t_g3, t_p3, t_z3, t_k187, t_g187, t_p187, t_z187, t_k210, t_g210, t_p210, t_z210, t_k212, t_g212, t_p212, t_z212, t_k214, t_g214, t_p214, t_z214, t_r0_0, t_r0_1, t_r0_2, t_r0_4, t_r0_5, t_r0_6, t_r0_7, t_r1_0, t_r3_0, t_r187_0, t_r187_1, t_r187_2, t_r187_3, t_r210_0, t_r212_0, t_r214_1, t_r214_5, t_r214_6, t_r214_8, t_r214_10, t_a2, t_s2, t_a209, t_s209, t_a211, t_s211, t_a213, t_s213, t_a215, t_s215, t_a216, t_s216, t_a217, t_s217, t_a218, t_s218, t_a219, t_s219, t_a4, t_s4, zSt_sI, zSt_sF, zSt_zI, zSt_sJ, zSt_sD, zBo_0, zBo_1, hS, bd2_some, bdx_inl, bdx_inr, bdc_inl, bdc_inr, obd_some, hreq, hL.2.1, nI_add, c2', hi24, hj24, p2, r2, v_gI hv, v_gI hw, hx.1.1, hy.1.1, c3', ↓reduceIte, String.reduceEq]
end C12
