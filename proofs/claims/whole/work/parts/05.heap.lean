/-! Rules of instructions that read and write the memory. -/
/-- a class of vwCl: number, name, fields, types; its words among the tables' -/
def CF (ci : Nat) (D : String) (T : u_T) (N : Nat) (ty : Nat → FieldType) : Prop :=
  vwCl[ci]? = some (D, T, N) ∧ N = nfT ci ∧ (∀ w ∈ u_ws D T N, w ∈ lw_tbl ∧ gw w = true) ∧ (∀ k, k < N → parseFieldDescriptor (T k).2.2.1 = some (ty k)) ∧ (∀ a, a < N → ∀ b, b < N → a ≠ b → (T a).2.1 ≠ (T b).2.1) ∧ ci < 7
/-- entry idx of own's pool is field k of class ci, final or not, of a type -/
def FL (own : String) (idx ci k : Nat) (f : Bool) (t : FieldType) : Prop :=
  ∃ (D : String) (T : u_T) (N : Nat) (ty : Nat → FieldType), CF ci D T N ty ∧ k < N ∧ (T k).2.2.2 = f ∧ ty k = t ∧
    (Cond.fieldLink own idx (T k).1 (T k).2.1 (T k).2.2.1 ∈ lw_tbl ∨ ∃ host : String, Cond.fieldLinkNest own idx (T k).1 (T k).2.1 (T k).2.2.1 host ∈ lw_tbl)
/-- entry idx of own's pool is a final field of own, by its plain link -/
def FF (own : String) (idx ci k : Nat) (t : FieldType) : Prop :=
  ∃ (D : String) (T : u_T) (N : Nat) (ty : Nat → FieldType), CF ci D T N ty ∧ k < N ∧ (T k).2.2.2 = true ∧ ty k = t ∧ (T k).1 = own ∧ Cond.fieldLink own idx (T k).1 (T k).2.1 (T k).2.2.1 ∈ lw_tbl
section RH
variable {g : GG} {l : Launch} {u : MU} {Q : FQ} {pc : Nat} {lv : List (Nat × Value)} {st : List Value} {k n : Nat} {S : Mem}
theorem r_getV {idx ci j a : Nat} {f : Bool} {t : FieldType} (hd : decode (uC u) pc = .ok (.getfield idx, 3)) (hf : FL (uY u).cls idx ci j f t) (ho : ok S a ci) (h : Run g l u Q (pc + 3) lv (fvM S a ci j :: st) k n S) : Run g l u Q pc lv (.ref a :: st) k n S := by
  intro p e s m args below meth c A H locs ls C hW hS hl
  obtain ⟨D, T, N, ty, ⟨c1, c2, c3, c4, c5, c6⟩, hj, -, -, hlink⟩ := hf
  obtain ⟨q, hq⟩ := mW_get g ho.1
  rw [mCell_o ho.2 c6] at hq
  have hv : (fsM S a ci)[j]? = some (fvM S a ci j) := fsM_get (by rw [← c2]; exact hj)
  rcases hlink with h1 | ⟨host, h1⟩
  · exact va_get (Ts := u_ws D T N) C.1 C.2.1 (fun w hw => Cx_w C (c3 w hw).1 (c3 w hw).2) (fun _ h => h) C.2.2.2.2.1 C.2.2.2.2.2.2.2.2.1.2.2.1 hW.1 q hq c1 j hj (Cx_w C h1 rfl) (fun _ h => h) hv hd (h p e s m args below meth c A H locs ls C hW hS hl)
  · exact va_getN (Ts := u_ws D T N) C.1 C.2.1 (fun w hw => Cx_w C (c3 w hw).1 (c3 w hw).2) (fun _ h => h) C.2.2.2.2.1 C.2.2.2.2.2.2.2.2.1.2.2.1 hW.1 q hq c1 j hj (Cx_w C h1 rfl) (fun _ h => h) hv hd (h p e s m args below meth c A H locs ls C hW hS hl)
theorem r_getI {idx ci j a : Nat} {f : Bool} {t : FieldType} (hd : decode (uC u) pc = .ok (.getfield idx, 3)) (hf : FL (uY u).cls idx ci j f t) (hr : rfT ci j = false) (ho : ok S a ci) (h : Run g l u Q (pc + 3) lv (.int (mI S a j) :: st) k n S) : Run g l u Q pc lv (.ref a :: st) k n S := by
  refine r_getV hd hf ho ?_
  rw [show fvM S a ci j = .int (mI S a j) by simp [fvM, hr]]
  exact h
theorem r_getR {idx ci j a b : Nat} {f : Bool} {t : FieldType} (hd : decode (uC u) pc = .ok (.getfield idx, 3)) (hf : FL (uY u).cls idx ci j f t) (hr : rfT ci j = true) (ho : ok S a ci) (hv : mR S a j = some b) (h : Run g l u Q (pc + 3) lv (.ref b :: st) k n S) : Run g l u Q pc lv (.ref a :: st) k n S := by
  refine r_getV hd hf ho ?_
  rw [show fvM S a ci j = .ref b by simp [fvM, hr, hv, va_rf]]
  exact h
/-- a store changes one cell -/
theorem okW_set {A : Nat → Prop} {H H1 : Heap} {s : State} {S' : Mem} {a q : Nat} {ce : va_E} {f : Bool} (hW : okW g A S H s k f) (ha : a ∈ mL S) (hq : (mW g S)[q]? = some (a, mCell g S a)) (hL : mL S' = mL S) (hX : mX S' = mX S) (hc : ∀ b, va_up (mCell g S) a ce b = mCell g S' b) (hP : va_P g.1 vwCl ((mW g S).set q (a, ce)) H1) (hD : va_D A ((mW g S).set q (a, ce))) : okW g A S' H1 s k f := by
  have e := mW_set (S' := S') hW.2.1 ha hq hL hc
  rw [e] at hP hD
  exact ⟨hP, hD, by unfold xk; rw [hL, hX]; exact hW.2.2⟩
theorem cell_sI {a ci j : Nat} (hK : mK S a = ci) (hc : ci < 7) (hr : rfT ci j = false) (v : Int32) (b : Nat) : va_up (mCell g S) a (.inr (ci, (fsM S a ci).set j (.int v))) b = mCell g (sI S a j v) b := by
  by_cases hb : b = a
  · subst hb
    rw [va_up_self, mCell_o (S := sI S b j v) (c := ci) hK hc]
    congr 2
    refine fsM_set ?_ ?_
    · simp [fvM, hr, sI, mI, up2]
    · intro i hi
      simp [fvM, sI, mI, mR, up2, hi]
  · rw [va_up_ne _ _ hb]
    exact (mCell_eq (S := S) (S' := sI S a j v) rfl rfl (up2_row _ _ hb) rfl rfl rfl).symm
theorem cell_sR {a ci j : Nat} (hK : mK S a = ci) (hc : ci < 7) (hr : rfT ci j = true) (v : Option Nat) (b : Nat) : va_up (mCell g S) a (.inr (ci, (fsM S a ci).set j (va_rf v))) b = mCell g (sR S a j v) b := by
  by_cases hb : b = a
  · subst hb
    rw [va_up_self, mCell_o (S := sR S b j v) (c := ci) hK hc]
    congr 2
    refine fsM_set ?_ ?_
    · simp [fvM, hr, sR, mR, up2]
    · intro i hi
      simp [fvM, sR, mI, mR, up2, hi]
  · rw [va_up_ne _ _ hb]
    exact (mCell_eq (S := S) (S' := sR S a j v) rfl rfl rfl (up2_row _ _ hb) rfl rfl).symm
theorem r_putV {idx ci j a : Nat} {t : FieldType} {v : Value} {S' : Mem} (hd : decode (uC u) pc = .ok (.putfield idx, 3)) (hf : FL (uY u).cls idx ci j false t) (hn : narrow t v = v) (hfit : fits t v = true) (ho : ok S a ci)
    (hL : mL S' = mL S) (hX : mX S' = mX S) (hc : ∀ b, va_up (mCell g S) a (.inr (ci, (fsM S a ci).set j v)) b = mCell g S' b) (h : Run g l u Q (pc + 3) lv st k n S') : Run g l u Q pc lv (v :: .ref a :: st) k n S := by
  intro p e s m args below meth c A H locs ls C hW hS hl
  obtain ⟨D, T, N, ty, ⟨c1, c2, c3, c4, c5, c6⟩, hj, hfin, hty, hlink⟩ := hf
  obtain ⟨q, hq0⟩ := mW_get g ho.1
  have hq := hq0
  rw [mCell_o ho.2 c6] at hq
  have hd2 : parseFieldDescriptor (T j).2.2.1 = some t := by rw [← hty]; exact c4 j hj
  have hlen : j < (fsM S a ci).length := by rw [fsM_len, ← c2]; exact hj
  rcases hlink with h1 | ⟨host, h1⟩
  · exact va_put (Ts := u_ws D T N) C.1 C.2.1 (fun w hw => Cx_w C (c3 w hw).1 (c3 w hw).2) (fun _ h => h) ty c4 c5 C.2.2.2.2.1 C.2.2.2.2.2.2.2.2.1.2.2.1 hW.1 hW.2.1 hS q hq c1 j hj (Cx_w C h1 rfl) (fun _ h => h) hfin hd2 hn hfit hlen hd
      (fun H1 locs1 hP1 hD1 hS1 => h p e s m args below meth c A H1 locs1 ls C (okW_set hW ho.1 hq0 hL hX hc hP1 hD1) hS1 hl)
  · exact va_putN (Ts := u_ws D T N) C.1 C.2.1 (fun w hw => Cx_w C (c3 w hw).1 (c3 w hw).2) (fun _ h => h) ty c4 c5 C.2.2.2.2.1 C.2.2.2.2.2.2.2.2.1.2.2.1 hW.1 hW.2.1 hS q hq c1 j hj (Cx_w C h1 rfl) (fun _ h => h) hfin hd2 hn hfit hlen hd
      (fun H1 locs1 hP1 hD1 hS1 => h p e s m args below meth c A H1 locs1 ls C (okW_set hW ho.1 hq0 hL hX hc hP1 hD1) hS1 hl)
theorem FL_lt {own : String} {idx ci j : Nat} {f : Bool} {t : FieldType} (hf : FL own idx ci j f t) : ci < 7 := by
  obtain ⟨D, T, N, ty, ⟨c1, c2, c3, c4, c5, c6⟩, -⟩ := hf
  exact c6
theorem r_putI {idx ci j a : Nat} {x : Int32} (hd : decode (uC u) pc = .ok (.putfield idx, 3)) (hf : FL (uY u).cls idx ci j false .int) (hr : rfT ci j = false) (ho : ok S a ci) (h : Run g l u Q (pc + 3) lv st k n (sI S a j x)) : Run g l u Q pc lv (.int x :: .ref a :: st) k n S :=
  r_putV (S' := sI S a j x) hd hf rfl rfl ho rfl rfl (cell_sI ho.2 (FL_lt hf) hr x) h
theorem narrow_b {x : Int32} (h : x = 0 ∨ x = 1) : narrow .boolean (.int x) = .int x ∧ fits .boolean (.int x) = true ∧ vp_nar .boolean x = x := by
  rcases h with rfl | rfl <;> exact ⟨by decide, by decide, by decide⟩
theorem r_putZ {idx ci j a : Nat} {x : Int32} (hd : decode (uC u) pc = .ok (.putfield idx, 3)) (hf : FL (uY u).cls idx ci j false .boolean) (hr : rfT ci j = false) (hx : x = 0 ∨ x = 1) (ho : ok S a ci) (h : Run g l u Q (pc + 3) lv st k n (sI S a j x)) : Run g l u Q pc lv (.int x :: .ref a :: st) k n S :=
  r_putV (S' := sI S a j x) hd hf (narrow_b hx).1 (narrow_b hx).2.1 ho rfl rfl (cell_sI ho.2 (FL_lt hf) hr x) h
theorem r_putF {idx ci j a b : Nat} {t : FieldType} (hd : decode (uC u) pc = .ok (.putfield idx, 3)) (hf : FF (uY u).cls idx ci j t) (hi : (uY u).name = "<init>") (hr : rfT ci j = true) (hn : narrow t (.ref b) = .ref b) (hfit : fits t (.ref b) = true) (ho : ok S a ci) (h : Run g l u Q (pc + 3) lv st k n (sR S a j (some b))) : Run g l u Q pc lv (.ref b :: .ref a :: st) k n S := by
  intro p e s m args below meth c A H locs ls C hW hS hl
  obtain ⟨D, T, N, ty, ⟨c1, c2, c3, c4, c5, c6⟩, hj, hfin, hty, hown, h1⟩ := hf
  obtain ⟨q, hq0⟩ := mW_get g ho.1
  have hq := hq0
  rw [mCell_o ho.2 c6] at hq
  have hd2 : parseFieldDescriptor (T j).2.2.1 = some t := by rw [← hty]; exact c4 j hj
  have hlen : j < (fsM S a ci).length := by rw [fsM_len, ← c2]; exact hj
  exact va_putF (Ts := u_ws D T N) C.1 C.2.1 (fun w hw => Cx_w C (c3 w hw).1 (c3 w hw).2) (fun _ h => h) ty c4 c5 C.2.2.2.2.1 C.2.2.2.2.2.2.2.2.1.2.2.1 hW.1 hW.2.1 hS q hq c1 j hj (Cx_w C h1 rfl) (fun _ h => h) hfin (C.2.2.2.2.2.2.1.trans hi) hown hd2 hn hfit hlen hd
      (fun H1 locs1 hP1 hD1 hS1 => h p e s m args below meth c A H1 locs1 ls C (okW_set hW ho.1 hq0 rfl rfl (cell_sR ho.2 c6 hr (some b)) hP1 hD1) hS1 hl)
-- arrays
theorem cell_7 {a j : Nat} (hK : mK S a = 7) (v : Int32) (b : Nat) : va_up (mCell g S) a (.inl (g.2.1 7, mN S a, .inl (upd (mI S a) j v))) b = mCell g (sI S a j v) b := by
  by_cases hb : b = a
  · subst hb
    rw [va_up_self, mCell_7 (S := sI S b j v) hK]
    show _ = Sum.inl (g.2.1 7, mN S b, Sum.inl (up2 (mI S) b j v b))
    rw [up2_at]
    rfl
  · rw [va_up_ne _ _ hb]
    exact (mCell_eq (S := S) (S' := sI S a j v) rfl rfl (up2_row _ _ hb) rfl rfl rfl).symm
theorem cell_8 {a j : Nat} (hK : mK S a = 8) (v : Int32) (b : Nat) : va_up (mCell g S) a (.inl (g.2.1 8, mN S a, .inl (upd (mI S a) j v))) b = mCell g (sI S a j v) b := by
  by_cases hb : b = a
  · subst hb
    rw [va_up_self, mCell_8 (S := sI S b j v) hK]
    show _ = Sum.inl (g.2.1 8, mN S b, Sum.inl (up2 (mI S) b j v b))
    rw [up2_at]
    rfl
  · rw [va_up_ne _ _ hb]
    exact (mCell_eq (S := S) (S' := sI S a j v) rfl rfl (up2_row _ _ hb) rfl rfl rfl).symm
theorem cell_9 {a j : Nat} (hK : mK S a = 9) (v : Option Nat) (b : Nat) : va_up (mCell g S) a (.inl (g.2.1 9, mN S a, .inr (.inr (.inr (.inr (va_up (mR S a) j v)))))) b = mCell g (sR S a j v) b := by
  by_cases hb : b = a
  · subst hb
    rw [va_up_self, mCell_9 (S := sR S b j v) hK]
    show _ = Sum.inl (g.2.1 9, mN S b, Sum.inr (Sum.inr (Sum.inr (Sum.inr (up2 (mR S) b j v b)))))
    rw [up2_at]
  · rw [va_up_ne _ _ hb]
    exact (mCell_eq (S := S) (S' := sR S a j v) rfl rfl rfl (up2_row _ _ hb) rfl rfl).symm
theorem cell_10 {a j : Nat} (hK : mK S a = 10) (v : Int64) (b : Nat) : va_up (mCell g S) a (.inl (g.2.1 10, mN S a, .inr (.inl (vp_updL (mJ S a) j v)))) b = mCell g (sJ S a j v) b := by
  by_cases hb : b = a
  · subst hb
    rw [va_up_self, mCell_10 (S := sJ S b j v) hK]
    show _ = Sum.inl (g.2.1 10, mN S b, Sum.inr (Sum.inl (up2 (mJ S) b j v b)))
    rw [up2_at]
    rfl
  · rw [va_up_ne _ _ hb]
    exact (mCell_eq (S := S) (S' := sJ S a j v) rfl rfl rfl rfl (up2_row _ _ hb) rfl).symm
theorem cell_11 {a j : Nat} (hK : mK S a = 11) (v : UInt64) (b : Nat) : va_up (mCell g S) a (.inl (g.2.1 11, mN S a, .inr (.inr (.inr (.inl (vf_upd (mD S a) j v)))))) b = mCell g (sD S a j v) b := by
  by_cases hb : b = a
  · subst hb
    rw [va_up_self, mCell_11 (S := sD S b j v) hK]
    show _ = Sum.inl (g.2.1 11, mN S b, Sum.inr (Sum.inr (Sum.inr (Sum.inl (up2 (mD S) b j v b)))))
    rw [up2_at]
    rfl
  · rw [va_up_ne _ _ hb]
    exact (mCell_eq (S := S) (S' := sD S a j v) rfl rfl rfl rfl rfl (up2_row _ _ hb)).symm
theorem r_iaload {a : Nat} {i : Int32} (hd : decode (uC u) pc = .ok (.iaload, 1)) (ho : ok S a 7) (hi : vp_in i (mN S a)) (h : Run g l u Q (pc + 1) lv (.int (mI S a i.toNatClampNeg) :: st) k n S) : Run g l u Q pc lv (.int i :: .ref a :: st) k n S := by
  intro p e s m args below meth c A H locs ls C hW hS hl
  obtain ⟨q, hq⟩ := mW_get g ho.1
  rw [mCell_7 ho.2] at hq
  exact va_iald C.1 C.2.1 C.2.2.2.2.2.2.2.2.1.2.2.1 hW.1 q 0 hq rfl hi hd (h p e s m args below meth c A H locs ls C hW hS hl)
theorem r_baload {a : Nat} {i : Int32} (hd : decode (uC u) pc = .ok (.baload, 1)) (ho : ok S a 8) (hi : vp_in i (mN S a)) (h : Run g l u Q (pc + 1) lv (.int (mI S a i.toNatClampNeg) :: st) k n S) : Run g l u Q pc lv (.int i :: .ref a :: st) k n S := by
  intro p e s m args below meth c A H locs ls C hW hS hl
  obtain ⟨q, hq⟩ := mW_get g ho.1
  rw [mCell_8 ho.2] at hq
  exact va_zald C.1 C.2.1 C.2.2.2.2.2.2.2.2.1.2.2.1 hW.1 q 1 hq rfl hi hd (h p e s m args below meth c A H locs ls C hW hS hl)
theorem r_aaload {a b : Nat} {i : Int32} (hd : decode (uC u) pc = .ok (.aaload, 1)) (ho : ok S a 9) (hi : vp_in i (mN S a)) (hv : mR S a i.toNatClampNeg = some b) (h : Run g l u Q (pc + 1) lv (.ref b :: st) k n S) : Run g l u Q pc lv (.int i :: .ref a :: st) k n S := by
  intro p e s m args below meth c A H locs ls C hW hS hl
  obtain ⟨q, hq⟩ := mW_get g ho.1
  rw [mCell_9 ho.2] at hq
  refine va_aldq C.1 C.2.1 C.2.2.2.2.2.2.2.2.1.2.2.1 hW.1 q 2 hq rfl hi hd ?_
  rw [hv]
  exact h p e s m args below meth c A H locs ls C hW hS hl
theorem r_laload {a : Nat} {i : Int32} (hd : decode (uC u) pc = .ok (.laload, 1)) (ho : ok S a 10) (hi : vp_in i (mN S a)) (h : Run g l u Q (pc + 1) lv (.long (mJ S a i.toNatClampNeg) :: st) k n S) : Run g l u Q pc lv (.int i :: .ref a :: st) k n S := by
  intro p e s m args below meth c A H locs ls C hW hS hl
  obtain ⟨q, hq⟩ := mW_get g ho.1
  rw [mCell_10 ho.2] at hq
  exact va_lald C.1 C.2.1 C.2.2.2.2.2.2.2.2.1.2.2.1 hW.1 q 3 hq rfl hi hd (h p e s m args below meth c A H locs ls C hW hS hl)
theorem r_daload {a : Nat} {i : Int32} (hd : decode (uC u) pc = .ok (.daload, 1)) (ho : ok S a 11) (hi : vp_in i (mN S a)) (h : Run g l u Q (pc + 1) lv (.double (mD S a i.toNatClampNeg) :: st) k n S) : Run g l u Q pc lv (.int i :: .ref a :: st) k n S := by
  intro p e s m args below meth c A H locs ls C hW hS hl
  obtain ⟨q, hq⟩ := mW_get g ho.1
  rw [mCell_11 ho.2] at hq
  exact va_dald C.1 C.2.1 C.2.2.2.2.2.2.2.2.1.2.2.1 hW.1 q 4 hq rfl hi hd (h p e s m args below meth c A H locs ls C hW hS hl)
theorem r_iastore {a : Nat} {i x : Int32} (hd : decode (uC u) pc = .ok (.iastore, 1)) (ho : ok S a 7) (hi : vp_in i (mN S a)) (h : Run g l u Q (pc + 1) lv st k n (sI S a i.toNatClampNeg x)) : Run g l u Q pc lv (.int x :: .int i :: .ref a :: st) k n S := by
  intro p e s m args below meth c A H locs ls C hW hS hl
  obtain ⟨q, hq0⟩ := mW_get g ho.1
  have hq := hq0
  rw [mCell_7 ho.2] at hq
  exact va_iast C.1 C.2.1 C.2.2.2.2.2.2.2.2.1.2.2.1 hW.1 hW.2.1 hS q 0 hq rfl hi hd (fun H1 locs1 hP1 hD1 hS1 => h p e s m args below meth c A H1 locs1 ls C (okW_set hW ho.1 hq0 rfl rfl (cell_7 ho.2 x) hP1 hD1) hS1 hl)
theorem r_bastore {a : Nat} {i x : Int32} (hd : decode (uC u) pc = .ok (.bastore, 1)) (ho : ok S a 8) (hi : vp_in i (mN S a)) (hx : x = 0 ∨ x = 1) (h : Run g l u Q (pc + 1) lv st k n (sI S a i.toNatClampNeg x)) : Run g l u Q pc lv (.int x :: .int i :: .ref a :: st) k n S := by
  intro p e s m args below meth c A H locs ls C hW hS hl
  obtain ⟨q, hq0⟩ := mW_get g ho.1
  have hq := hq0
  rw [mCell_8 ho.2] at hq
  refine va_zast C.1 C.2.1 C.2.2.2.2.2.2.2.2.1.2.2.1 hW.1 hW.2.1 hS q 1 hq rfl hi hd (fun H1 locs1 hP1 hD1 hS1 => ?_)
  rw [(narrow_b hx).2.2] at hP1 hD1
  exact h p e s m args below meth c A H1 locs1 ls C (okW_set hW ho.1 hq0 rfl rfl (cell_8 ho.2 x) hP1 hD1) hS1 hl
theorem r_aastore {a b : Nat} {i : Int32} (hd : decode (uC u) pc = .ok (.aastore, 1)) (ho : ok S a 9) (hb : ok S b 4) (hi : vp_in i (mN S a)) (h : Run g l u Q (pc + 1) lv st k n (sR S a i.toNatClampNeg (some b))) : Run g l u Q pc lv (.ref b :: .int i :: .ref a :: st) k n S := by
  intro p e s m args below meth c A H locs ls C hW hS hl
  obtain ⟨q, hq0⟩ := mW_get g ho.1
  obtain ⟨q2, hq2⟩ := mW_get g hb.1
  have hq := hq0
  rw [mCell_9 ho.2] at hq
  rw [mCell_o hb.2 (by decide)] at hq2
  exact va_astq (r := (RX4, TX4, 9)) C.1 C.2.1 C.2.2.2.2.2.2.2.2.1.2.2.1 hW.1 hW.2.1 hS q 2 q2 4 hq rfl hq2 rfl hi hd (fun H1 locs1 hP1 hD1 hS1 => h p e s m args below meth c A H1 locs1 ls C (okW_set hW ho.1 hq0 rfl rfl (cell_9 ho.2 (some b)) hP1 hD1) hS1 hl)
theorem r_lastore {a : Nat} {i : Int32} {x : Int64} (hd : decode (uC u) pc = .ok (.lastore, 1)) (ho : ok S a 10) (hi : vp_in i (mN S a)) (h : Run g l u Q (pc + 1) lv st k n (sJ S a i.toNatClampNeg x)) : Run g l u Q pc lv (.long x :: .int i :: .ref a :: st) k n S := by
  intro p e s m args below meth c A H locs ls C hW hS hl
  obtain ⟨q, hq0⟩ := mW_get g ho.1
  have hq := hq0
  rw [mCell_10 ho.2] at hq
  exact va_last C.1 C.2.1 C.2.2.2.2.2.2.2.2.1.2.2.1 hW.1 hW.2.1 hS q 3 hq rfl hi hd (fun H1 locs1 hP1 hD1 hS1 => h p e s m args below meth c A H1 locs1 ls C (okW_set hW ho.1 hq0 rfl rfl (cell_10 ho.2 x) hP1 hD1) hS1 hl)
theorem r_dastore {a : Nat} {i : Int32} {x : UInt64} (hd : decode (uC u) pc = .ok (.dastore, 1)) (ho : ok S a 11) (hi : vp_in i (mN S a)) (h : Run g l u Q (pc + 1) lv st k n (sD S a i.toNatClampNeg x)) : Run g l u Q pc lv (.double x :: .int i :: .ref a :: st) k n S := by
  intro p e s m args below meth c A H locs ls C hW hS hl
  obtain ⟨q, hq0⟩ := mW_get g ho.1
  have hq := hq0
  rw [mCell_11 ho.2] at hq
  exact va_dast C.1 C.2.1 C.2.2.2.2.2.2.2.2.1.2.2.1 hW.1 hW.2.1 hS q 4 hq rfl hi hd (fun H1 locs1 hP1 hD1 hS1 => h p e s m args below meth c A H1 locs1 ls C (okW_set hW ho.1 hq0 rfl rfl (cell_11 ho.2 x) hP1 hD1) hS1 hl)
end RH
theorem cf0 : CF 0 RX0 TX0 3 tyX0 := ⟨rfl, rfl, by decide +kernel, tyX0_ok, nmX0, by decide⟩
theorem cf1 : CF 1 RX1 TX1 4 tyX1 := ⟨rfl, rfl, by decide +kernel, tyX1_ok, nmX1, by decide⟩
theorem cf2 : CF 2 RX2 TX2 2 tyX2 := ⟨rfl, rfl, by decide +kernel, tyX2_ok, nmX2, by decide⟩
theorem cf3 : CF 3 RX3 TX3 2 tyX3 := ⟨rfl, rfl, by decide +kernel, tyX3_ok, nmX3, by decide⟩
theorem cf4 : CF 4 RX4 TX4 9 tyX4 := ⟨rfl, rfl, by decide +kernel, tyX4_ok, nmX4, by decide⟩
theorem cf5 : CF 5 RX5 TX5 8 tyX5 := ⟨rfl, rfl, by decide +kernel, tyX5_ok, nmX5, by decide⟩
theorem cf6 : CF 6 RX6 TX6 11 tyX6 := ⟨rfl, rfl, by decide +kernel, tyX6_ok, nmX6, by decide⟩
