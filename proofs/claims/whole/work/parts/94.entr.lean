set_option maxRecDepth 20000
/-! From the law's entry to its loop. -/
def uL_ent : MU := (yL_law, cL_law, 8, some .boolean, room_1, [], true)
theorem noL_8 : NO RL 8 5 := ⟨_, _, _, _, cf5, (mt1 17 rfl), (mt1 18 rfl), (mt1 1 rfl), by decide +kernel⟩
theorem noL_83 : NO RL 83 6 := ⟨_, _, _, _, cf6, (mt3 239 rfl), (mt4 0 rfl), (mt1 7 rfl), by decide +kernel⟩
theorem liL_82 : LI RL 82 uX5_init 0 := ⟨⟨(mt1 19 rfl), (mt1 1 rfl), by decide +kernel, by decide +kernel, (mt1 21 rfl)⟩, rfl, rfl, (mt1 20 rfl)⟩
theorem liL_85 : LI RL 85 uX6_init 0 := ⟨⟨(mt4 1 rfl), (mt1 7 rfl), by decide +kernel, by decide +kernel, (mt4 3 rfl)⟩, rfl, rfl, (mt4 2 rfl)⟩
/-- the next address is forgotten -/
theorem r_forget {g : GG} {l : Launch} {Q : FQ} {pc : Nat} {lv : List (Nat × Value)} {st : List Value} {k n : Nat} {S : Mem} (h : Run g l uL_law Q pc lv st k n (sX S)) : Run g l uL_ent Q pc lv st k n S :=
  fun p e s m args below meth c A H locs ls C hW hS hl => h p e s m args below meth c A H locs ls C ⟨hW.1, hW.2.1, fun _ => rfl, fun q => by cases q⟩ hS hl
set_option maxRecDepth 100000 in
theorem T_ent {g : GG} {l : Launch} (hl : l.stackTraces = false) {b z : Nat} {S S1 S2 : Mem} (x0 : mX S = z) (h1 : F_X5_init z (nw S 5 0) = some S1) (x1 : mX S1 = z + 214) (h2 : F_X6_init (z + 214) (nw S1 6 0) = some S2) (x2 : mX S2 = z + 220) (h : ∀ k n, k ≤ 1000 → n ≤ 10000 → Run g l uL_law lawQ 28 [(0, .ref b), (1, .ref z), (2, .ref (z + 214)), (3, .ref (z + 220)), (4, .ref (z + 221)), (5, .int (nI 0))] [] k n (sX (nw (nw S2 10 1) 11 1))) : Run g l uL_ent lawQ 0 [(0, .ref b)] [] 0 0 S := by
  refine r_new dL_law_0 noL_8 rfl (Nat.le_of_ble_eq_true rfl) (Nat.le_of_ble_eq_true rfl) ?_
  rw [x0]
  refine r_dup dL_law_3 rfl ?_
  refine r_invI (As := []) (st := [.ref z]) dL_law_4 liL_82 ⟨Nat.le_of_ble_eq_true rfl, Nat.le_of_ble_eq_true rfl, Nat.le_of_ble_eq_true rfl, Nat.le_of_ble_eq_true rfl, rfl, fun _ => by decide⟩ (Nat.le_of_ble_eq_true rfl) rfl rfl (T_X5_init hl h1) ?_
  refine r_astore_n (lv' := [(1, .ref z), (0, .ref b)]) dL_law_7 rfl (by decide) rfl ?_
  refine r_new dL_law_8 noL_83 rfl (Nat.le_of_ble_eq_true rfl) (Nat.le_of_ble_eq_true rfl) ?_
  rw [x1]
  refine r_dup dL_law_11 rfl ?_
  refine r_invI (As := []) (st := [.ref (z + 214)]) dL_law_12 liL_85 ⟨Nat.le_of_ble_eq_true rfl, Nat.le_of_ble_eq_true rfl, Nat.le_of_ble_eq_true rfl, Nat.le_of_ble_eq_true rfl, rfl, fun _ => by decide⟩ (Nat.le_of_ble_eq_true rfl) rfl rfl (T_X6_init hl h2) ?_
  refine r_astore_n (lv' := [(2, .ref (z + 214)), (1, .ref z), (0, .ref b)]) dL_law_15 rfl (by decide) rfl ?_
  refine r_iconst (v := (1 : Int32)) dL_law_16 (by decide) ?_
  refine r_newJ (N := 1) dL_law_17 (by decide) (by decide) (by decide) rfl (Nat.le_of_ble_eq_true rfl) (Nat.le_of_ble_eq_true rfl) ?_
  rw [x2]
  refine r_astore_n (lv' := [(3, .ref (z + 220)), (2, .ref (z + 214)), (1, .ref z), (0, .ref b)]) dL_law_19 rfl (by decide) rfl ?_
  refine r_iconst (v := (1 : Int32)) dL_law_20 (by decide) ?_
  refine r_newD (N := 1) dL_law_21 (by decide) (by decide) (by decide) rfl (Nat.le_of_ble_eq_true rfl) (Nat.le_of_ble_eq_true rfl) ?_
  have x3 : mX (nw S2 10 1) = z + 221 := by show mX S2 + 1 = _; rw [x2]
  rw [x3]
  refine r_astore (lv' := [(4, .ref (z + 221)), (3, .ref (z + 220)), (2, .ref (z + 214)), (1, .ref z), (0, .ref b)]) dL_law_23 (by decide) rfl ?_
  refine r_iconst (v := (nI 0)) dL_law_25 (by decide) ?_
  refine r_istore (lv' := [(5, .int (nI 0)), (4, .ref (z + 221)), (3, .ref (z + 220)), (2, .ref (z + 214)), (1, .ref z), (0, .ref b)]) dL_law_26 (by decide) rfl ?_
  refine r_sub [5, 4, 3, 2, 1, 0] rfl ?_
  refine r_forget ?_
  exact h _ _ (Nat.le_of_ble_eq_true rfl) (Nat.le_of_ble_eq_true rfl)
