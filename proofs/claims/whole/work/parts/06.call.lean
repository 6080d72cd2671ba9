/-! Answers, calls, throws; what is made; the tables. -/
section RA
variable {g : GG} {l : Launch} {u : MU} {Q : FQ} {pc : Nat} {lv : List (Nat × Value)} {st : List Value} {k n : Nat} {S : Mem}
theorem rQ_of {A : Nat → Prop} {H : Heap} {locs : List Loc} {s : State} {v : Option Value} {mc : Nat} {f : Bool} {args : Array Value} (hW : okW g A S H s mc f) (hS : va_S A s.heap H locs) (t : State) (ht : t.heap = H) : rQ g A (.inl v) S mc f args s (.returned v) t :=
  ⟨rfl, by rw [ht]; exact hW, hS.F ht⟩
theorem xk_mc {f : Bool} {s : State} {k mc : Nat} (h : xk f s k S) (hk : f = true → k = mc) : xk f s mc S := by
  cases f with
  | false => exact ⟨h.1, fun q => by cases q⟩
  | true =>
    rw [← hk rfl]
    exact h
theorem r_ireturn {v : Int32} {ty : FieldType} (hd : decode (uC u) pc = .ok (.ireturn, 1)) (hr : uT u = some ty) (hn : narrow ty (.int v) = .int v) (hk : (uF u = true → k = (uR u).cells) ∧ k ≤ (uR u).cells) (hs : n ≤ (uR u).slots) : Run g l u (fin g u (.inl (some (.int v))) S) pc lv [.int v] k n S := by
  intro p e s m args below meth c A H locs ls C hW hS hl
  refine vx_ret (W.widen hk.2 hs ?_)
  exact W.zret C.1 C.2.1 (C.2.2.1.trans hr) hn (fun t ht _ => rQ_of ⟨hW.1, hW.2.1, xk_mc hW.2.2 hk.1⟩ hS t ht) hS.2.2 hd C.2.2.2.2.2.1
theorem r_return (hd : decode (uC u) pc = .ok (.return_, 1)) (hr : uT u = none) (hk : (uF u = true → k = (uR u).cells) ∧ k ≤ (uR u).cells) (hs : n ≤ (uR u).slots) : Run g l u (fin g u (.inl none) S) pc lv [] k n S := by
  intro p e s m args below meth c A H locs ls C hW hS hl
  refine vx_ret (W.widen hk.2 hs ?_)
  exact W.vret C.1 C.2.1 (C.2.2.1.trans hr) (fun t ht _ => rQ_of ⟨hW.1, hW.2.1, xk_mc hW.2.2 hk.1⟩ hS t ht) hS.2.2 hd C.2.2.2.2.2.1
theorem r_freturn {v : UInt32} (hd : decode (uC u) pc = .ok (.freturn, 1)) (hr : uT u = some .float) (hk : (uF u = true → k = (uR u).cells) ∧ k ≤ (uR u).cells) (hs : n ≤ (uR u).slots) : Run g l u (fin g u (.inl (some (.float v))) S) pc lv [.float v] k n S := by
  intro p e s m args below meth c A H locs ls C hW hS hl
  refine vx_ret (W.widen hk.2 hs ?_)
  exact W.fret C.1 C.2.1 (C.2.2.1.trans hr) (fun t ht _ => rQ_of ⟨hW.1, hW.2.1, xk_mc hW.2.2 hk.1⟩ hS t ht) hS.2.2 hd C.2.2.2.2.2.1
theorem r_areturn {b : Nat} {nm : String} (hd : decode (uC u) pc = .ok (.areturn, 1)) (hr : uT u = some (.object nm)) (hk : (uF u = true → k = (uR u).cells) ∧ k ≤ (uR u).cells) (hs : n ≤ (uR u).slots) : Run g l u (fin g u (.inl (some (.ref b))) S) pc lv [.ref b] k n S := by
  intro p e s m args below meth c A H locs ls C hW hS hl
  refine vx_ret (W.widen hk.2 hs ?_)
  exact W.aret C.1 C.2.1 (C.2.2.1.trans hr) (Or.inl ⟨_, rfl⟩) (Or.inr ⟨_, rfl⟩) (fun t ht _ => rQ_of ⟨hW.1, hW.2.1, xk_mc hW.2.2 hk.1⟩ hS t ht) hS.2.2 hd C.2.2.2.2.2.1
end RA
/-! contracts -/
def cP (g : GG) (av : List Value) (S : Mem) (sz : Nat) (f : Bool) : Array Value → State → Prop := fun v U =>
  v = av.toArray ∧ U.heap.size = sz ∧ va_P g.1 vwCl (mW g S) U.heap ∧ va_D (fun _ => True) (mW g S) ∧ Gd g (va_A (mW g S) sz) U U.heap ∧ xk f U 0 S
/-- the method, called with av over S, ends with r over S' -/
def Call (g : GG) (l : Launch) (u : MU) (av : List Value) (S : Mem) (r : Option Value ⊕ String) (S' : Mem) : Prop :=
  ∀ sz, vx_Met l (uY u) [.code (uY u) (uC u) (uN u) (uT u)] (uR u) (cP g av S sz (uF u)) (rQ g (va_A (mW g S) sz) r S' (uR u).cells (uF u)) (rX g (va_A (mW g S) sz) r S' (uR u).cells (uF u)) (uR u).cells (uR u).slots (va_A (mW g S) sz)
/-- .. a method with a table of handlers -/
def CallT (g : GG) (l : Launch) (u : MU) (av : List Value) (S : Mem) (r : Option Value ⊕ String) (S' : Mem) : Prop :=
  ∀ sz, vx_Met l (uY u) [.codeWith (uY u) (uC u) (uN u) (uT u) (uH u)] (uR u) (cP g av S sz (uF u)) (rQ g (va_A (mW g S) sz) r S' (uR u).cells (uF u)) (rX g (va_A (mW g S) sz) r S' (uR u).cells (uF u)) (uR u).cells (uR u).slots (va_A (mW g S) sz)
theorem call_of {g : GG} {l : Launch} {u : MU} {av : List Value} {S S' : Mem} {r : Option Value ⊕ String} (hy : plainName (uY u).cls = true) (hst : l.stackTraces = false) (hH : uH u = []) (hn : (lg_sl av).length ≤ uN u) (h : Run g l u (fin g u r S') 0 (lv_args 0 av) [] 0 0 S) : Call g l u av S r S' := by
  intro sz
  refine vx_ofW (cc := uC u) (maxL := uN u) (ret := uT u) hy rfl ?_
  intro p e s m args below meth c s₁ B hml htb hv
  obtain ⟨rfl, rfl, hP, hD0, hG, hX⟩ := hv
  have hl := lv_entry av (n := uN u) hn
  rw [lg_entry_eq]
  have ht : c.exceptionTable.toList = [] := by
    cases hc : c.exceptionTable.toList with
    | nil => rfl
    | cons x r => exact (htb x (by rw [hc]; exact List.mem_cons_self)).elim
  exact h p e s m _ below meth c _ s.heap [] _ ⟨B.exec, B.bytes, B.returns, hml, findClass_of_methodNamed B.named, B.notSynchronized, (name_of_methodNamed B.named B.method).1, hst, hG, fun q hq => Or.inr hq, by rw [hH, ht]; rfl⟩ ⟨hP, hD0.self, hX⟩ va_S.rf hl
theorem callT_of {g : GG} {l : Launch} {u : MU} {av : List Value} {S S' : Mem} {r : Option Value ⊕ String} (hy : plainName (uY u).cls = true) (hst : l.stackTraces = false) (hn : (lg_sl av).length ≤ uN u) (h : Run g l u (fin g u r S') 0 (lv_args 0 av) [] 0 0 S) : CallT g l u av S r S' := by
  intro sz
  refine vx_ofWH (cc := uC u) (maxL := uN u) (ret := uT u) (hh := uH u) hy rfl ?_
  intro p e s m args below meth c s₁ B hml hv
  obtain ⟨rfl, rfl, hP, hD0, hG, hX⟩ := hv
  have hl := lv_entry av (n := uN u) hn
  rw [lg_entry_eq]
  exact h p e s m _ below meth c _ s.heap [] _ ⟨B.exec, B.bytes, B.returns, hml, findClass_of_methodNamed B.named, B.notSynchronized, (name_of_methodNamed B.named B.method).1, hst, hG, fun q hq => Or.inr hq, vx_table (x := uY u) B (atoms_spec (ws := [.codeWith (uY u) (uC u) (uN u) (uT u) (uH u)]) B.pre _ List.mem_cons_self)⟩ ⟨hP, hD0.self, hX⟩ va_S.rf hl

theorem met_of {g : GG} {l : Launch} {u : MU} {av : List Value} {S S' : Mem} {v : Option Value} (h : Call g l u av S (.inl v) S') (sz : Nat) : Met l (uY u) [.code (uY u) (uC u) (uN u) (uT u)] (uR u) (cP g av S sz (uF u)) (rQ g (va_A (mW g S) sz) (.inl v) S' (uR u).cells (uF u)) (uR u).cells (uR u).slots (va_A (mW g S) sz) := by
  intro p e ha hc hk s m args below hf happ hP hK
  obtain ⟨n, o, h1, h2, h3, hQ⟩ := h sz p e ha hc hk s m args below hf happ hP hK
  refine ⟨n, o, h1, h2, h3, ?_⟩
  rcases hQ with hQ | ⟨q, hq, E, ce, L, hx, -⟩
  · exact hQ
  · exact hx.elim
theorem cP_blind {g : GG} {av : List Value} {S : Mem} {sz : Nat} {f : Bool} : FrameBlind (cP g av S sz f) := by
  intro a U g' mk h
  obtain ⟨h1, h2, h3, h4, h5, h6⟩ := h
  exact ⟨h1, h2, h3, h4, Gd_warm (s := U) (U := U.calling g' mk a) (State.WarmedH.refl U) h5, h6⟩
section RC
variable {g : GG} {l : Launch} {u u2 : MU} {Q : FQ} {pc : Nat} {lv : List (Nat × Value)} {st : List Value} {k n : Nat} {S S1 : Mem}
variable {p : Program} {e : Env} {s : State} {m : MethodId} {args : Array Value} {below : List Frame} {meth : Method} {c : Code} {A : Nat → Prop} {H : Heap} {locs : List Loc} {T : State} {R : Room}
theorem free_in (hW : okW g A S H s k (uF u)) (hS : va_S A s.heap H locs) (hA : ∀ q, s.heap.size ≤ q → A q) : ∀ q, va_A (mW g S) H.size q → A q := by
  rintro q (⟨i, ce, hi⟩ | hq)
  · exact hW.2.1.2 i _ hi
  · exact hA q (Nat.le_trans hS.1 hq)
theorem size_of (X : Stand p l e R s m args below meth c T locs k n) (hT : T.heap = H) (hW : okW g A S H s k true) (hS : va_S A s.heap H locs) : H.size = mX S := by
  have h1 := X.heapSize
  rw [hT] at h1
  obtain ⟨h2, h3⟩ := hW.2.2.2 rfl
  have h4 := hS.1
  rcases h3 with h3 | h3
  · omega
  · obtain ⟨q, hq⟩ := mW_get g h3
    have := (hW.1 q _ hq).lt
    dsimp only at this
    omega
theorem pre_of (C : Cx g l u p s m args meth c A) (hW : okW g A S H s k (uF u)) (hS : va_S A s.heap H locs) (hf : uF u2 = uF u) (hz : uF u = true → H.size = mX S) (av : List Value) : ∀ U : State, U.heap = H → s.WarmedH U.vm → cP g av S H.size (uF u2) av.toArray U := by
  intro U hU hWm
  have hA := C.2.2.2.2.2.2.2.2.2.1
  refine ⟨rfl, by rw [hU], by rw [hU]; exact hW.1, hW.2.1.weaken (fun _ _ _ _ => trivial), ?_, ?_, ?_⟩
  · rw [hU]
    exact Gd_narrow (Gd_kept (Gd_warm hWm C.2.2.2.2.2.2.2.2.1) hS.2.1) (free_in hW hS hA)
  · intro q
    rw [hf] at q
    exact hW.2.2.1 q
  · intro q
    rw [hf] at q
    refine ⟨?_, Or.inl rfl⟩
    rw [hU, hz q]
    rfl
theorem after_call (hf : uF u2 = uF u) (hm : uF u2 = true → 0 < (uR u2).cells) (hz : uF u = true → H.size = mX S) (hW : okW g A S H s k (uF u)) (hS : va_S A s.heap H locs) (hA : ∀ q, s.heap.size ≤ q → A q) {st₀ t : State} (h0 : st₀.heap = H)
    (hq : okW g (va_A (mW g S) H.size) S1 t.heap st₀ (uR u2).cells (uF u2)) : okW g A S1 t.heap s (k + (uR u2).cells) (uF u) := by
  refine ⟨hq.1, hq.2.1.weaken (fun _ _ _ h => free_in hW hS hA _ h), ?_, ?_⟩
  · intro q
    rw [← hf] at q
    exact hq.2.2.1 q
  · intro q
    have hz' := hz q
    have h1 := (hW.2.2.2 q).1
    rw [← hf] at q
    obtain ⟨h2, h3⟩ := hq.2.2.2 q
    rw [h0] at h2
    refine ⟨by omega, Or.inr ?_⟩
    rcases h3 with h3 | h3
    · have := hm q; omega
    · exact h3
/-- entry idx of own's pool is the method u2, of np parameters -/
def LK (own : String) (idx : Nat) (u2 : MU) (np : Nat) : Prop :=
  Cond.methodLink own idx (uY u2) ∈ lw_tbl ∧ Cond.initialized (uY u2).cls ∈ lw_tbl ∧ ((uY u2).cls ≠ "java/lang/invoke/MethodHandle" ∧ (uY u2).cls ≠ "java/lang/invoke/VarHandle") ∧ (parseMethodDescriptor (uY u2).desc).map (fun d => d.parameters.length) = some np ∧ Cond.code (uY u2) (uC u2) (uN u2) (uT u2) ∈ lw_tbl
def LV (own : String) (idx : Nat) (u2 : MU) (np : Nat) (ci : Nat) : Prop :=
  LK own idx u2 np ∧ Cond.instanceMethod (uY u2) ∈ lw_tbl ∧ Cond.selects (uY u2).cls (uY u2) (uY u2) ∈ lw_tbl ∧ ci < 7 ∧ ∃ T N, vwCl[ci]? = some ((uY u2).cls, T, N)
def LSt (own : String) (idx : Nat) (u2 : MU) (np : Nat) : Prop := LK own idx u2 np ∧ Cond.static (uY u2) ∈ lw_tbl
def LI (own : String) (idx : Nat) (u2 : MU) (np : Nat) : Prop := LK own idx u2 np ∧ (uY u2).name = "<init>" ∧ uT u2 = none ∧ Cond.instanceMethod (uY u2) ∈ lw_tbl
def LN (own : String) (idx : Nat) (u2 : MU) (np : Nat) : Prop :=
  ∃ host : String, Cond.methodLinkNest own idx (uY u2) host ∈ lw_tbl ∧ Cond.initialized (uY u2).cls ∈ lw_tbl ∧ ((uY u2).cls ≠ "java/lang/invoke/MethodHandle" ∧ (uY u2).cls ≠ "java/lang/invoke/VarHandle") ∧ (parseMethodDescriptor (uY u2).desc).map (fun d => d.parameters.length) = some np ∧ Cond.code (uY u2) (uC u2) (uN u2) (uT u2) ∈ lw_tbl ∧ Cond.static (uY u2) ∈ lw_tbl
/-- the callee's room is in the caller's -/
def RM (u u2 : MU) (k n : Nat) : Prop := (uR u2).frames + 1 ≤ (uR u).frames ∧ 8 + (uN u2 + 11) + (uR u2).locals ≤ (uR u).locals ∧ k + (uR u2).cells ≤ (uR u).cells ∧ n + (uR u2).slots ≤ (uR u).slots ∧ uF u2 = uF u ∧ (uF u2 = true → 0 < (uR u2).cells)
theorem callB (C : Cx g l u p s m args meth c A) {idx np : Nat} (h : LK (uY u).cls idx u2 np) (hr : RM u u2 k n) : CallB (uR u) s args (uY u).cls idx (uY u2) (uC u2) (uN u2) (uT u2) [.code (uY u2) (uC u2) (uN u2) (uT u2)] (uR u2) (uR u2).cells (uR u2).slots np := by
  obtain ⟨h1, h2, h3, h4, h5⟩ := h
  obtain ⟨r1, r2, r3, r4, -⟩ := hr
  refine ⟨rfl, rfl, r1, r2, ?_, List.mem_cons_self, Cx_w C h5 rfl, Cx_w C h2 rfl, h3, ?_, Cx_w C h1 rfl⟩
  · intro w hw a' U hWm
    rw [List.mem_singleton.mp hw]
    exact gw_warm (w := Cond.code (uY u2) (uC u2) (uN u2) (uT u2)) rfl hWm (C.2.2.2.2.2.2.2.2.1.1 _ h5 rfl) a'
  · intro sig hs
    rw [hs] at h4
    exact (Option.some.inj h4).symm
theorem rcv_of (C : Cx g l u p s m args meth c A) (hW : okW g A S H s k (uF u)) {idx np ci b : Nat} (h : LV (uY u).cls idx u2 np ci) (ho : ok S b ci) : ∃ cell : Cell, H[b]? = some cell ∧ cell.vm.isStatics = false ∧ s.vm.findClass (uY u2).cls = some cell.cls := by
  obtain ⟨-, -, -, hci, T, N, hc⟩ := h
  obtain ⟨q, hq⟩ := mW_get g ho.1
  rw [mCell_o ho.2 hci] at hq
  exact va_recv C.2.2.2.2.2.2.2.2.1.2.2.1 hW.1 hc hq
theorem r_invV {idx np ci b : Nat} {As st0 : List Value} {v : Option Value} (hd : decode (uC u) pc = .ok (.invokevirtual idx, 3)) (hlk : LV (uY u).cls idx u2 np ci) (hr : RM u u2 k n) (hst : (st.map fun v => v.category).sum ≤ 8) (hnp : As.length = np) (h0 : st0 = As.reverse ++ .ref b :: st) (ho : ok S b ci)
    (hc : Call g l u2 (.ref b :: As) S (.inl v) S1) (h : Run g l u Q (pc + 3) lv (v.toList ++ st) (k + (uR u2).cells) (n + (uR u2).slots) S1) : Run g l u Q pc lv st0 k n S := by
  subst h0
  intro p e s m args below meth c A H locs ls C hW hS hl T hT X
  have hz : uF u = true → H.size = mX S := fun q => size_of X hT (by rw [← q]; exact hW) hS
  have hA := C.2.2.2.2.2.2.2.2.2.1
  have hrun := vx_runV (Ts := []) (e := e) (below := below) (meth := meth) (H := H) (locs := locs) (cells := k) (slots := n) (g := F0 m pc ls (As.reverse ++ .ref b :: st)) (rest := st) ⟨C.1, C.2.1, C.2.2.2.1, C.2.2.2.2.1, fun w hw => nomatch hw⟩ (hc H.size) ⟨callB C hlk.1 hr, Cx_w C hlk.2.1 rfl, Cx_w C hlk.2.2.1 rfl⟩ ⟨cP_blind, rcv_of C hW hlk ho, pre_of C hW hS hr.2.2.2.2.1 hz (.ref b :: As)⟩ rfl hnp hl.1 rfl (lv_room hst) hd ⟨hr.2.2.1, hr.2.2.2.1⟩
  rcases hrun T hT X with ⟨v', st₀, t, T', L, h0, X', hL, e1, e2, hq, stp⟩ | ⟨q, st₀, t, T', L, E, ce, h0, X', hL, e1, e2, hx, -⟩
  · obtain ⟨hv, hq, hF⟩ := hq
    cases hv
    obtain ⟨-, -, k3⟩ := vx_keep h0 e1 hS (fun q _ hq => free_in hW hS hA q hq) (free_in hW hS hA) hL hF
    have hok := after_call hr.2.2.2.2.1 hr.2.2.2.2.2 hz hW hS hA h0 hq
    rw [← e1] at hok
    obtain ⟨t2, a1, b1⟩ := h p e s m args below meth c A T'.heap (locs ++ L) ls C hok k3 hl T' rfl X'
    exact ⟨t2, stp t2 a1, b1⟩
  · exact hx.elim
theorem r_invS {idx np : Nat} {As st0 : List Value} {v : Option Value} (hd : decode (uC u) pc = .ok (.invokestatic idx, 3)) (hlk : LSt (uY u).cls idx u2 np) (hr : RM u u2 k n) (hst : (st.map fun v => v.category).sum ≤ 8) (hnp : As.length = np) (h0 : st0 = As.reverse ++ st)
    (hc : Call g l u2 As S (.inl v) S1) (h : Run g l u Q (pc + 3) lv (v.toList ++ st) (k + (uR u2).cells) (n + (uR u2).slots) S1) : Run g l u Q pc lv st0 k n S := by
  subst h0
  intro p e s m args below meth c A H locs ls C hW hS hl T hT X
  have hz : uF u = true → H.size = mX S := fun q => size_of X hT (by rw [← q]; exact hW) hS
  have hA := C.2.2.2.2.2.2.2.2.2.1
  have hrun := vx_runS (Ts := []) (e := e) (below := below) (meth := meth) (H := H) (locs := locs) (cells := k) (slots := n) (g := F0 m pc ls (As.reverse ++ st)) (rest := st) ⟨C.1, C.2.1, C.2.2.2.1, C.2.2.2.2.1, fun w hw => nomatch hw⟩ (hc H.size) ⟨callB C hlk.1 hr, Cx_w C hlk.2 rfl⟩ ⟨cP_blind, pre_of C hW hS hr.2.2.2.2.1 hz As⟩ rfl hnp hl.1 rfl (lv_room hst) hd ⟨hr.2.2.1, hr.2.2.2.1⟩
  rcases hrun T hT X with ⟨v', st₀, t, T', L, h0, X', hL, e1, e2, hq, stp⟩ | ⟨q, st₀, t, T', L, E, ce, h0, X', hL, e1, e2, hx, -⟩
  · obtain ⟨hv, hq, hF⟩ := hq
    cases hv
    obtain ⟨-, -, k3⟩ := vx_keep h0 e1 hS (fun q _ hq => free_in hW hS hA q hq) (free_in hW hS hA) hL hF
    have hok := after_call hr.2.2.2.2.1 hr.2.2.2.2.2 hz hW hS hA h0 hq
    rw [← e1] at hok
    obtain ⟨t2, a1, b1⟩ := h p e s m args below meth c A T'.heap (locs ++ L) ls C hok k3 hl T' rfl X'
    exact ⟨t2, stp t2 a1, b1⟩
  · exact hx.elim
theorem r_invI {idx np b : Nat} {As st0 : List Value} (hd : decode (uC u) pc = .ok (.invokespecial idx, 3)) (hlk : LI (uY u).cls idx u2 np) (hr : RM u u2 k n) (hst : (st.map fun v => v.category).sum ≤ 8) (hnp : As.length = np) (h0 : st0 = As.reverse ++ .ref b :: st)
    (hc : Call g l u2 (.ref b :: As) S (.inl none) S1) (h : Run g l u Q (pc + 3) lv st (k + (uR u2).cells) (n + (uR u2).slots) S1) : Run g l u Q pc lv st0 k n S := by
  subst h0
  intro p e s m args below meth c A H locs ls C hW hS hl T hT X
  have hz : uF u = true → H.size = mX S := fun q => size_of X hT (by rw [← q]; exact hW) hS
  have hA := C.2.2.2.2.2.2.2.2.2.1
  have hcb := callB C hlk.1 hr
  have hmet := met_of hc H.size
  rw [hlk.2.2.1] at hcb hmet
  have hrun := va_runI (Ts := []) (e := e) (below := below) (meth := meth) (H := H) (locs := locs) (cells := k) (slots := n) (g := F0 m pc ls (As.reverse ++ .ref b :: st)) (rest := st) ⟨C.1, C.2.1, C.2.2.2.1, C.2.2.2.2.1, fun w hw => nomatch hw⟩ hmet ⟨hcb, hlk.2.1, Cx_w C hlk.2.2.2 rfl⟩ ⟨cP_blind, pre_of C hW hS hr.2.2.2.2.1 hz (.ref b :: As)⟩ rfl hnp hl.1 rfl (lv_room hst) hd ⟨hr.2.2.1, hr.2.2.2.1⟩
  obtain ⟨v', st₀, t, T', L, h0, X', hL, e1, e2, hq, stp⟩ := hrun T hT X
  obtain ⟨hv, hq, hF⟩ := hq
  cases hv
  obtain ⟨-, -, k3⟩ := vx_keep h0 e1 hS (fun q _ hq => free_in hW hS hA q hq) (free_in hW hS hA) hL hF
  have hok := after_call hr.2.2.2.2.1 hr.2.2.2.2.2 hz hW hS hA h0 hq
  rw [← e1] at hok
  obtain ⟨t2, a1, b1⟩ := h p e s m args below meth c A T'.heap (locs ++ L) ls C hok k3 hl T' rfl X'
  exact ⟨t2, stp t2 a1, b1⟩
theorem r_invN {idx np : Nat} {As st0 : List Value} {v : Option Value} (hd : decode (uC u) pc = .ok (.invokestatic idx, 3)) (hlk : LN (uY u).cls idx u2 np) (hr : RM u u2 k n) (hst : (st.map fun v => v.category).sum ≤ 8) (hnp : As.length = np) (h0 : st0 = As.reverse ++ st)
    (hc : Call g l u2 As S (.inl v) S1) (h : Run g l u Q (pc + 3) lv (v.toList ++ st) (k + (uR u2).cells) (n + (uR u2).slots) S1) : Run g l u Q pc lv st0 k n S := by
  subst h0
  intro p e s m args below meth c A H locs ls C hW hS hl T hT X
  have hz : uF u = true → H.size = mX S := fun q => size_of X hT (by rw [← q]; exact hW) hS
  have hA := C.2.2.2.2.2.2.2.2.2.1
  obtain ⟨host, h1, h2, h3, h4, h5, h6⟩ := hlk
  have hrun := va_runSN (Ts := []) (e := e) (below := below) (meth := meth) (H := H) (locs := locs) (cells := k) (slots := n) (g := F0 m pc ls (As.reverse ++ st)) (rest := st) (n := np) ⟨C.1, C.2.1, C.2.2.2.1, C.2.2.2.2.1, fun w hw => nomatch hw⟩ (met_of hc H.size)
    ⟨⟨⟨rfl, rfl, hr.1, hr.2.1, fun w hw a' U hWm => by
        rw [List.mem_singleton.mp hw]
        exact gw_warm (w := Cond.code (uY u2) (uC u2) (uN u2) (uT u2)) rfl hWm (C.2.2.2.2.2.2.2.2.1.1 _ h5 rfl) a', List.mem_cons_self⟩, Cx_w C h5 rfl, Cx_w C h2 rfl, h3, fun sig hs => by
        rw [hs] at h4
        exact (Option.some.inj h4).symm, Cx_w C h1 rfl⟩, Cx_w C h6 rfl, trivial⟩ ⟨cP_blind, pre_of C hW hS hr.2.2.2.2.1 hz As⟩ rfl hnp hl.1 rfl (lv_room hst) hd ⟨hr.2.2.1, hr.2.2.2.1⟩
  obtain ⟨v', st₀, t, T', L, h0, X', hL, e1, e2, hq, stp⟩ := hrun T hT X
  obtain ⟨hv, hq, hF⟩ := hq
  cases hv
  obtain ⟨-, -, k3⟩ := vx_keep h0 e1 hS (fun q _ hq => free_in hW hS hA q hq) (free_in hW hS hA) hL hF
  have hok := after_call hr.2.2.2.2.1 hr.2.2.2.2.2 hz hW hS hA h0 hq
  rw [← e1] at hok
  obtain ⟨t2, a1, b1⟩ := h p e s m args below meth c A T'.heap (locs ++ L) ls C hok k3 hl T' rfl X'
  exact ⟨t2, stp t2 a1, b1⟩
end RC
