set_option maxRecDepth 20000
/-! What holds at the start. -/
theorem tab_any {w : Cond} (hc : w.onTables = true) {s : State} {A : Array Value} (h : w.before A s = true) (a : Array Value) : w.before a s = true := by
  have e := Cond.onTables_vm (A := A) (A' := a) (U := s) (U' := s) s.vm w hc
  have hU : s.setVm s.vm = s := rfl
  rw [hU] at e
  rw [← e]
  exact h
theorem gw_any {w : Cond} {s : State} {A : Array Value} (h : gw w = true) (hs : w.before A s = true) : ∀ a, w.before a s = true := by
  intro a
  rcases Bool.or_eq_true_iff.mp h with h1 | h1
  · exact word_at (State.WarmedH.refl s) (good_of_word h1) hs
  · cases w <;> first
      | (simp [nestWord] at h1; done)
      | exact va_Nw.use rfl (va_Nw.of (A := A) rfl hs)
      | exact tab_any rfl hs a
theorem str_of {own tx : String} {k : Nat} {A : Array Value} {s : State} (h1 : (Cond.stringRef own k tx).before A s = true) (h2 : (Cond.exactly (Term.string own k) "java/lang/String").before A s = true) : ∃ sa, vk_R own k tx sa s := by
  obtain ⟨a, c, cell, k', q1, -⟩ := Cond.exactly_spec (args := A) (first := s) (o := none) (s := s) (idx := []) (t := Term.string own k) (cls := "java/lang/String") h2
  exact ⟨a, vk_R.of h1 q1⟩
theorem arr_of {ty : FieldType} {A : Array Value} {s : State} (h : (Cond.arrayClass ty).before A s = true) : ∃ cA, ArrOfT s cA ty ∧ s.vm.findClass ("[" ++ ty.toString) = some cA := by
  obtain ⟨cA, kA, comp, h1, h2, h3⟩ := Cond.arrayClass_spec (args := A) (first := s) (o := none) (s := s) (idx := []) h
  exact ⟨cA, fun n z => ⟨fun k h => (by cases h), kA, h2, comp, h3⟩, h1⟩
theorem arv_of {C : String} {A : Array Value} {s : State} (h : (Cond.arrayOver (.object C)).before A s = true) : ∃ cA, ArrOfT s cA (.object C) ∧ va_RA s cA (.object C) := by
  obtain ⟨comp, cA, kA, h1, h2, h3, h4, h5⟩ := Cond.arrayOver_spec (args := A) (first := s) (o := none) (s := s) (idx := []) h
  exact ⟨cA, fun n z => ⟨fun k h => (by cases h), kA, h3, comp, h4⟩, kA, comp, h3, h4, h1, h5⟩
theorem Tx_of {b L : Nat} {xs : Nat → Int32} {s : State} {H : Heap} {A : Nat → Prop} (h : va_X b L xs s H) (hA : ¬ A b) : va_T .int b L (fun j => .int (xs j)) A s H := by
  obtain ⟨scr, h1, h2, h3, h4, h5⟩ := h
  exact ⟨scr, h1, h2, h3, Nat.le_of_eq h4.symm, by rw [h4], h5, hA⟩
theorem kn_of {A : Array Value} {s : State} (hts : ∀ w ∈ lw_tbl, w.before A s = true) : ∃ D : va_G, ∀ (c : Nat) (q : vw_C), vwCl[c]? = some q → u_Kn s q.1 q.2.1 q.2.2 (D.1 c) (D.2 c) := by
  obtain ⟨c0, i0, k0⟩ := u_known (C := RX0) (T := TX0) (N := 3) (n := 3) hts (fun w hw => (cf0.2.2.1 w hw).1) (hts (.instantiable RX0 3) (mt1 143 rfl))
  obtain ⟨c1, i1, k1⟩ := u_known (C := RX1) (T := TX1) (N := 4) (n := 4) hts (fun w hw => (cf1.2.2.1 w hw).1) (hts (.instantiable RX1 4) (mt1 121 rfl))
  obtain ⟨c2, i2, k2⟩ := u_known (C := RX2) (T := TX2) (N := 2) (n := 2) hts (fun w hw => (cf2.2.2.1 w hw).1) (hts (.instantiable RX2 2) (mt1 41 rfl))
  obtain ⟨c3, i3, k3⟩ := u_known (C := RX3) (T := TX3) (N := 2) (n := 2) hts (fun w hw => (cf3.2.2.1 w hw).1) (hts (.instantiable RX3 2) (mt1 26 rfl))
  obtain ⟨c4, i4, k4⟩ := u_known (C := RX4) (T := TX4) (N := 9) (n := 9) hts (fun w hw => (cf4.2.2.1 w hw).1) (hts (.instantiable RX4 9) (mt1 48 rfl))
  obtain ⟨c5, i5, k5⟩ := u_known (C := RX5) (T := TX5) (N := 8) (n := 8) hts (fun w hw => (cf5.2.2.1 w hw).1) (hts (.instantiable RX5 8) (mt1 18 rfl))
  obtain ⟨c6, i6, k6⟩ := u_known (C := RX6) (T := TX6) (N := 11) (n := 11) hts (fun w hw => (cf6.2.2.1 w hw).1) (hts (.instantiable RX6 11) (mt4 0 rfl))
  refine ⟨(fun c => if c = 0 then c0 else if c = 1 then c1 else if c = 2 then c2 else if c = 3 then c3 else if c = 4 then c4 else if c = 5 then c5 else c6, fun c => if c = 0 then i0 else if c = 1 then i1 else if c = 2 then i2 else if c = 3 then i3 else if c = 4 then i4 else if c = 5 then i5 else i6), fun c q hq => ?_⟩
  match c, hq with
  | 0, hq => cases hq; exact k0
  | 1, hq => cases hq; exact k1
  | 2, hq => cases hq; exact k2
  | 3, hq => cases hq; exact k3
  | 4, hq => cases hq; exact k4
  | 5, hq => cases hq; exact k5
  | 6, hq => cases hq; exact k6
  | c + 7, hq => simp [vwCl] at hq
/-- what holds at the law's entry: the machine, the code, the tables' words, the script, what the Statement gives of the start -/
def lw_At (p : Program) (s : State) (m : MethodId) (meth : Method) (c : Code) (b L : Nat) (xs : Nat → Int32) : Prop :=
  p.tables.exec = Jvm.exec ∧ c.code = code ∧ meth.sig.returnType = ret ∧ c.maxLocals = 8 ∧ s.vm.findClass R_law = some m.cls ∧ (∀ w ∈ lw_tbl, w.before #[Value.ref b] s = true) ∧ va_X b L xs s s.heap ∧ b < s.heap.size ∧ meth.locks = false ∧ (Jvm.Cond.and given_1 narrow_1).before #[Value.ref b] s = true
theorem strs_of {A : Array Value} {s : State} (hts : ∀ w ∈ lw_tbl, w.before A s = true) (fl : ∀ c ∈ flatC (Jvm.Cond.and given_1 narrow_1), c.before A s = true) : ∀ q ∈ strT, ∃ sa, vk_R RX5 q.1 q.2 sa s := by
  exact List.forall_mem_cons.mpr ⟨str_of (hts _ (mt2 0 rfl)) (fl _ (List.mem_of_getElem? (i := 53) (by decide +kernel))), List.forall_mem_cons.mpr ⟨str_of (hts _ (mt2 36 rfl)) (fl _ (List.mem_of_getElem? (i := 73) (by decide +kernel))), List.forall_mem_cons.mpr ⟨str_of (hts _ (mt2 43 rfl)) (fl _ (List.mem_of_getElem? (i := 105) (by decide +kernel))), List.forall_mem_cons.mpr ⟨str_of (hts _ (mt2 58 rfl)) (fl _ (List.mem_of_getElem? (i := 143) (by decide +kernel))), List.forall_mem_cons.mpr ⟨str_of (hts _ (mt2 63 rfl)) (fl _ (List.mem_of_getElem? (i := 167) (by decide +kernel))), List.forall_mem_cons.mpr ⟨str_of (hts _ (mt2 87 rfl)) (fl _ (List.mem_of_getElem? (i := 211) (by decide +kernel))), List.forall_mem_cons.mpr ⟨str_of (hts _ (mt2 88 rfl)) (fl _ (List.mem_of_getElem? (i := 230) (by decide +kernel))), List.forall_mem_cons.mpr ⟨str_of (hts _ (mt2 89 rfl)) (fl _ (List.mem_of_getElem? (i := 251) (by decide +kernel))), List.forall_mem_cons.mpr ⟨str_of (hts _ (mt2 97 rfl)) (fl _ (List.mem_of_getElem? (i := 281) (by decide +kernel))), List.forall_mem_cons.mpr ⟨str_of (hts _ (mt2 109 rfl)) (fl _ (List.mem_of_getElem? (i := 310) (by decide +kernel))), List.forall_mem_cons.mpr ⟨str_of (hts _ (mt2 113 rfl)) (fl _ (List.mem_of_getElem? (i := 349) (by decide +kernel))), List.forall_mem_cons.mpr ⟨str_of (hts _ (mt2 124 rfl)) (fl _ (List.mem_of_getElem? (i := 398) (by decide +kernel))), List.forall_mem_cons.mpr ⟨str_of (hts _ (mt2 130 rfl)) (fl _ (List.mem_of_getElem? (i := 437) (by decide +kernel))), List.forall_mem_cons.mpr ⟨str_of (hts _ (mt2 142 rfl)) (fl _ (List.mem_of_getElem? (i := 455) (by decide +kernel))), List.forall_mem_cons.mpr ⟨str_of (hts _ (mt2 143 rfl)) (fl _ (List.mem_of_getElem? (i := 471) (by decide +kernel))), List.forall_mem_cons.mpr ⟨str_of (hts _ (mt2 151 rfl)) (fl _ (List.mem_of_getElem? (i := 496) (by decide +kernel))), List.forall_mem_cons.mpr ⟨str_of (hts _ (mt2 156 rfl)) (fl _ (List.mem_of_getElem? (i := 524) (by decide +kernel))), List.forall_mem_cons.mpr ⟨str_of (hts _ (mt2 183 rfl)) (fl _ (List.mem_of_getElem? (i := 548) (by decide +kernel))), List.forall_mem_cons.mpr ⟨str_of (hts _ (mt2 237 rfl)) (fl _ (List.mem_of_getElem? (i := 575) (by decide +kernel))), List.forall_mem_cons.mpr ⟨str_of (hts _ (mt2 238 rfl)) (fl _ (List.mem_of_getElem? (i := 605) (by decide +kernel))), List.forall_mem_cons.mpr ⟨str_of (hts _ (mt3 34 rfl)) (fl _ (List.mem_of_getElem? (i := 644) (by decide +kernel))), List.forall_mem_cons.mpr ⟨str_of (hts _ (mt3 82 rfl)) (fl _ (List.mem_of_getElem? (i := 687) (by decide +kernel))), List.forall_mem_cons.mpr ⟨str_of (hts _ (mt3 124 rfl)) (fl _ (List.mem_of_getElem? (i := 742) (by decide +kernel))), List.forall_mem_cons.mpr ⟨str_of (hts _ (mt3 138 rfl)) (fl _ (List.mem_of_getElem? (i := 758) (by decide +kernel))), List.forall_mem_cons.mpr ⟨str_of (hts _ (mt3 189 rfl)) (fl _ (List.mem_of_getElem? (i := 796) (by decide +kernel))), List.forall_mem_cons.mpr ⟨str_of (hts _ (mt3 205 rfl)) (fl _ (List.mem_of_getElem? (i := 841) (by decide +kernel))), List.forall_mem_cons.mpr ⟨str_of (hts _ (mt3 213 rfl)) (fl _ (List.mem_of_getElem? (i := 857) (by decide +kernel))), List.forall_mem_cons.mpr ⟨str_of (hts _ (mt3 225 rfl)) (fl _ (List.mem_of_getElem? (i := 873) (by decide +kernel))), List.forall_mem_cons.mpr ⟨str_of (hts _ (mt3 238 rfl)) (fl _ (List.mem_of_getElem? (i := 919) (by decide +kernel))), fun _ h => absurd h List.not_mem_nil⟩⟩⟩⟩⟩⟩⟩⟩⟩⟩⟩⟩⟩⟩⟩⟩⟩⟩⟩⟩⟩⟩⟩⟩⟩⟩⟩⟩⟩
theorem ncs_of {A : Array Value} {s : State} (fl : ∀ c ∈ flatC (Jvm.Cond.and given_1 narrow_1), c.before A s = true) : ∀ q ∈ ncT, va_Nc q.1 q.2 s :=
  List.forall_mem_cons.mpr ⟨va_Nc.of (fl _ (List.mem_of_getElem? (i := 20) (by decide +kernel))), List.forall_mem_cons.mpr ⟨va_Nc.of (fl _ (List.mem_of_getElem? (i := 22) (by decide +kernel))), List.forall_mem_cons.mpr ⟨va_Nc.of (fl _ (List.mem_of_getElem? (i := 21) (by decide +kernel))), List.forall_mem_cons.mpr ⟨va_Nc.of (fl _ (List.mem_of_getElem? (i := 41) (by decide +kernel))), fun _ h => absurd h List.not_mem_nil⟩⟩⟩⟩
theorem let_of {b : Nat} {s : State} (hts : ∀ w ∈ lw_tbl, w.before #[Value.ref b] s = true) (fl : ∀ c ∈ flatC (Jvm.Cond.and given_1 narrow_1), c.before #[Value.ref b] s = true) : ∃ t : Nat, va_Z RX5 "LETTERS" "[I" (.ref t) (fun q => s.heap.size ≤ q) s s.heap ∧ va_T .int t 4 (fun j => .int (letT j)) (fun q => s.heap.size ≤ q) s s.heap := by
  have hA : ∀ a : Nat, a < s.heap.size → ¬ (fun q => s.heap.size ≤ q) a := fun a h => Nat.not_le.mpr h
  obtain ⟨t, e1, e2⟩ := va_Tof (args := #[Value.ref b]) (tm := .static RX5 "LETTERS" "[I") (ty := .int) (N := 4) (f := fun j => .int (letT j)) (A := fun q => s.heap.size ≤ q) (by decide) (fl _ (List.mem_of_getElem? (i := 7) (by decide +kernel))) (va_eqt (fl _ (List.mem_of_getElem? (i := 8) (by decide +kernel)))) (fun j hj => by
    match j, hj with
    | 0, _ => exact va_eqt (fl _ (List.mem_of_getElem? (i := 9) (by decide +kernel)))
    | 1, _ => exact va_eqt (fl _ (List.mem_of_getElem? (i := 10) (by decide +kernel)))
    | 2, _ => exact va_eqt (fl _ (List.mem_of_getElem? (i := 11) (by decide +kernel)))
    | 3, _ => exact va_eqt (fl _ (List.mem_of_getElem? (i := 12) (by decide +kernel)))
    | j + 4, hj => omega) hA
  exact ⟨t, va_Zof (hts _ (mt3 108 rfl)) (hts _ (mt1 1 rfl)) e1 hA, e2⟩
theorem Gd_start {p : Program} {s : State} {m : MethodId} {meth : Method} {c : Code} {b L : Nat} {xs : Nat → Int32} (C0 : lw_At p s m meth c b L xs) : ∃ g : GG, (g.2.2.2.1 = b ∧ g.2.2.2.2.1 = L ∧ g.2.2.2.2.2 = xs) ∧ Gd g (fun q => s.heap.size ≤ q) s s.heap := by
  obtain ⟨hx, hb, hr, hml, hown, hts, hX, hbl, hlocks, hgv⟩ := C0
  have fl := flat_of_before _ hgv
  have hA : ∀ a : Nat, a < s.heap.size → ¬ (fun q => s.heap.size ≤ q) a := fun a h => Nat.not_le.mpr h
  obtain ⟨D, hD⟩ := kn_of hts
  obtain ⟨aI, aI1, aI2⟩ := arr_of (hts (.arrayClass .int) (mt1 39 rfl))
  obtain ⟨aZ, aZ1, aZ2⟩ := arr_of (hts (.arrayClass .boolean) (mt1 108 rfl))
  obtain ⟨aJ, aJ1, aJ2⟩ := arr_of (hts (.arrayClass .long) (mt5 22 rfl))
  obtain ⟨aD, aD1, aD2⟩ := arr_of (hts (.arrayClass .double) (mt5 23 rfl))
  obtain ⟨aV, aV1, aV2⟩ := arv_of (hts (.arrayOver (.object RX4)) (mt1 47 rfl))
  obtain ⟨t, t1, t2⟩ := let_of hts fl
  refine ⟨(D, (fun k => if k = 7 then aI else if k = 8 then aZ else if k = 9 then aV else if k = 10 then aJ else aD), t, b, L, xs), ⟨rfl, rfl, rfl⟩, fun w hw hg => gw_any hg (hts w hw), strs_of hts fl, ⟨hD, fun k q hk => ?_⟩, ⟨vx_Zqof (hts _ (mt1 225 rfl)) (hts _ (mt1 8 rfl)) (fl _ (List.mem_of_getElem? (i := 4) (by decide +kernel))) hA, vx_Zqof (hts _ (mt1 227 rfl)) (hts _ (mt1 8 rfl)) (fl _ (List.mem_of_getElem? (i := 5) (by decide +kernel))) hA⟩, ⟨t1, t2⟩, Tx_of hX (hA b hbl), va_AO.of (hts _ (mt1 47 rfl)), ncs_of fl⟩
  match k, hk with
  | 0, hk => cases hk; exact ⟨aI1, aI2⟩
  | 1, hk => cases hk; exact ⟨aZ1, aZ2⟩
  | 2, hk => cases hk; exact ⟨aV1, aV2⟩
  | 3, hk => cases hk; exact ⟨aJ1, aJ2⟩
  | 4, hk => cases hk; exact ⟨aD1, aD2⟩
  | k + 5, hk => simp [tysG] at hk
