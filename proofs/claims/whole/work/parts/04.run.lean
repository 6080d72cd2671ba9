/-! The judgement of a walk: from pc, with these locals, this operand stack, this memory, the machine comes to an end of which Q holds. -/
/-- a method: name, bytes, locals, answer, room (its cells and slots are what it may make), the rows of its exception table -/
abbrev MU : Type := MethodName × ByteArray × Nat × Option FieldType × Room × List (Nat × Nat × Nat × Nat) × Bool
abbrev uY (u : MU) : MethodName := u.1
abbrev uC (u : MU) : ByteArray := u.2.1
abbrev uN (u : MU) : Nat := u.2.2.1
abbrev uT (u : MU) : Option FieldType := u.2.2.2.1
abbrev uR (u : MU) : Room := u.2.2.2.2.1
abbrev uH (u : MU) : List (Nat × Nat × Nat × Nat) := u.2.2.2.2.2.1
/-- whether it makes things of ours (a constructor), so that the next address is known -/
abbrev uF (u : MU) : Bool := u.2.2.2.2.2.2
/-- words that the tables alone decide and that stay, beside the good ones: links to private members of a nest mate, casts, declarations -/
def nestWord : Cond → Bool
  | .fieldLinkNest .. => true
  | .methodLinkNest .. => true
  | .castable .. => true
  | .declares _ => true
  | _ => false
theorem tab_at {w : Cond} (hc : w.onTables = true) {u U : State} (h : w.before #[] (u.setVm U.vm) = true) (a : Array Value) : w.before a U = true := by
  have e := Cond.onTables_vm (A := #[]) (A' := a) (U := u) (U' := U) U.vm w hc
  have hU : U.setVm U.vm = U := rfl
  rw [hU] at e
  rw [← e]
  exact h
def gw (w : Cond) : Bool := goodWord w || nestWord w
theorem gw_warm {w : Cond} {s U : State} (h : gw w = true) (hW : s.WarmedH U.vm) (hs : ∀ a, w.before a s = true) : ∀ a, w.before a U = true := by
  intro a
  rcases Bool.or_eq_true_iff.mp h with h1 | h1
  · exact word_at hW (good_of_word h1) (hs a)
  · cases w <;> first
      | (simp [nestWord] at h1; done)
      | exact va_Nw.use rfl (va_Nw.warmM hW (va_Nw.of (A := #[]) rfl (hs #[])))
      | exact va_Nw.use rfl (va_Nw.warmF hW (va_Nw.of (A := #[]) rfl (hs #[])))
      | exact tab_at (u := s) rfl (by rw [Cond.castable_setVm hW.alike]; exact hs #[]) a
      | exact tab_at (u := s) rfl (by rw [Cond.declares_setVm hW.alike]; exact hs #[]) a
/-- LETTERS, as its class makes them -/
def letT (j : Nat) : Int32 := ([65, 67, 71, 84] : List Int32).getD j 0
/-- the String constants of VariantKit: pool index and text -/
def strT : List (Nat × String) := [(56, "n is not 1 .. 16"), (67, "there are records or a draft"), (73, "there would be more than 160 bases"), (79, "length is not 1 .. 8"), (85, "the reference does not have these places"), (101, "n is not 1 .. 8"), (103, "there is no draft"), (108, "the draft has four alleles"), (117, "the draft has that allele"), (123, "there is no draft or no such allele"), (128, "the depth or the quality is out of its bounds"), (140, "there is no draft or no such sample"), (145, "no such allele"), (158, "no such pair"), (160, "value is not 0 .. 999"), (165, "the draft has one allele"), (171, "there are 24 records"), (271, "there is no such record"), (196, "the record has two alleles"), (198, "there would be more than 24 records"), (210, "there is no next record with this place"), (217, "more than four alleles, or one of more than 8 bases"), (230, "no such byte"), (236, "there would be more than 120 bytes"), (244, "the bytes are no record on this reference"), (252, "no such what"), (254, "no such base"), (273, "begin and end are not in order in 1 .. 255"), (269, "there are no such records")]
/-- exceptions that are no others -/
def ncT : List (String × String) := [("java/lang/IllegalStateException", "java/lang/IllegalArgumentException"), ("java/lang/IndexOutOfBoundsException", "java/lang/IllegalArgumentException"), ("java/util/NoSuchElementException", "java/lang/IllegalArgumentException"), ("java/lang/IllegalStateException", "java/util/NoSuchElementException")]
/-- what holds all along: the tables' words, the constants, what nobody writes -/
def Gd (g : GG) (A : Nat → Prop) (U : State) (H : Heap) : Prop :=
  (∀ w ∈ lw_tbl, gw w = true → ∀ a, w.before a U = true) ∧
  (∀ q ∈ strT, ∃ sa, vk_R RX5 q.1 q.2 sa U) ∧
  va_K g.1 vwCl (tysG g) U ∧
  (vx_Zq Bundle.tN "UNASSIGNED_STACK" Bundle.steD A U H ∧ vx_Zq Bundle.tN "SUPPRESSED_SENTINEL" Bundle.listD A U H) ∧
  (va_Z RX5 "LETTERS" "[I" (.ref g.2.2.1) A U H ∧ va_T .int g.2.2.1 4 (fun j => .int (letT j)) A U H) ∧
  va_T .int g.2.2.2.1 g.2.2.2.2.1 (fun j => .int (g.2.2.2.2.2 j)) A U H ∧
  va_AO RX4 U ∧ (∀ q ∈ ncT, va_Nc q.1 q.2 U)
theorem Gd_warm {g : GG} {A : Nat → Prop} {s U : State} {H : Heap} (hW : s.WarmedH U.vm) (h : Gd g A s H) : Gd g A U H := by
  obtain ⟨h1, h2, h3, ⟨h4, h5⟩, ⟨h6, h7⟩, h8, h9, h10⟩ := h
  exact ⟨fun w hw hg => gw_warm hg hW (h1 w hw hg), fun q hq => by obtain ⟨sa, hs⟩ := h2 q hq; exact ⟨sa, vk_R.warm hW hs⟩, va_K.moved hW.alike h3,
    ⟨vx_Zq.moved hW.alike h4, vx_Zq.moved hW.alike h5⟩, ⟨va_Z.moved hW.alike h6, va_T.moved hW.alike h7⟩, va_T.moved hW.alike h8, va_AO.moved hW.alike h9, fun q hq => va_Nc.moved hW.alike (h10 q hq)⟩
theorem Gd_kept {g : GG} {A : Nat → Prop} {U : State} {H H1 : Heap} (h : Gd g A U H) (hq : ∀ a : Nat, a < H.size → ¬ A a → H1[a]? = H[a]?) : Gd g A U H1 := by
  obtain ⟨h1, h2, h3, ⟨h4, h5⟩, ⟨h6, h7⟩, h8, h9, h10⟩ := h
  exact ⟨h1, h2, h3, ⟨h4.kept hq, h5.kept hq⟩, ⟨h6.kept hq, h7.kept hq⟩, h8.kept hq, h9, h10⟩
theorem Gd_narrow {g : GG} {A B : Nat → Prop} {U : State} {H : Heap} (h : Gd g A U H) (hAB : ∀ q, B q → A q) : Gd g B U H := by
  obtain ⟨h1, h2, h3, ⟨h4, h5⟩, ⟨h6, h7⟩, h8, h9, h10⟩ := h
  exact ⟨h1, h2, h3, ⟨h4.narrow hAB, h5.narrow hAB⟩, ⟨h6.narrow hAB, h7.narrow hAB⟩, h8.narrow hAB, h9, h10⟩
/-- what a method's body stands on -/
def Cx (g : GG) (l : Launch) (u : MU) (p : Program) (s : State) (m : MethodId) (args : Array Value) (meth : Method) (c : Code) (A : Nat → Prop) : Prop :=
  p.tables.exec = Jvm.exec ∧ c.code = uC u ∧ meth.sig.returnType = uT u ∧ c.maxLocals = uN u ∧ s.vm.findClass (uY u).cls = some m.cls ∧ meth.locks = false ∧ meth.name = (uY u).name ∧ l.stackTraces = false ∧ Gd g A s s.heap ∧ (∀ q, s.heap.size ≤ q → A q) ∧ c.exceptionTable.toList = tableOf (uH u)
abbrev FQ : Type := Array Value → List Frame → State → (Nat → Prop) → State → Prop
def Run (g : GG) (l : Launch) (u : MU) (Q : FQ) (pc : Nat) (lv : List (Nat × Value)) (st : List Value) (k n : Nat) (S : Mem) : Prop :=
  ∀ (p : Program) (e : Env) (s : State) (m : MethodId) (args : Array Value) (below : List Frame) (meth : Method) (c : Code) (A : Nat → Prop) (H : Heap) (locs : List Loc) (ls : Array Slot),
    Cx g l u p s m args meth c A → okW g A S H s k (uF u) → va_S A s.heap H locs → lv_has ls (uN u) lv → W p l e (uR u) s m args below meth c H locs k n (Q args below s A) (F0 m pc ls st)
/-- a method's end: an answer, or the name of what is thrown -/
def rQ (g : GG) (A : Nat → Prop) (r : Option Value ⊕ String) (S' : Mem) (mc : Nat) (f : Bool) : Array Value → State → Outcome → State → Prop := fun _ st oc t =>
  match r with
  | .inl v => oc = .returned v ∧ okW g A S' t.heap st mc f ∧ va_F A st t
  | .inr _ => False
def rX (g : GG) (A : Nat → Prop) (r : Option Value ⊕ String) (S' : Mem) (mc : Nat) (f : Bool) : String → State → State → Prop := fun E st t =>
  match r with
  | .inl _ => False
  | .inr E' => E = E' ∧ okW g A S' t.heap st mc f ∧ va_F A st t
def fin (g : GG) (u : MU) (r : Option Value ⊕ String) (S' : Mem) : FQ := fun args below s A => vx_MQ below (rQ g A r S' (uR u).cells (uF u)) (rX g A r S' (uR u).cells (uF u)) args s (uR u).cells (uR u).slots A
theorem Cx_w {g : GG} {l : Launch} {u : MU} {p : Program} {s : State} {m : MethodId} {args : Array Value} {meth : Method} {c : Code} {A : Nat → Prop} (C : Cx g l u p s m args meth c A) {w : Cond} (hm : w ∈ lw_tbl) (hg : gw w = true) : w.before args s = true := C.2.2.2.2.2.2.2.2.1.1 w hm hg args
theorem r_widen {g : GG} {l : Launch} {u : MU} {Q : FQ} {pc : Nat} {lv : List (Nat × Value)} {st : List Value} {k n k' n' : Nat} {S : Mem} (hx : uF u = false) (h1 : k ≤ k') (h2 : n ≤ n') (h : Run g l u Q pc lv st k' n' S) : Run g l u Q pc lv st k n S :=
  fun p e s m args below meth c A H locs ls C hW hS hl => W.widen h1 h2 (h p e s m args below meth c A H locs ls C ⟨hW.1, hW.2.1, hW.2.2.1, fun q => absurd (hx.symm.trans q) (by decide)⟩ hS hl)
/-- fewer locals -/
theorem r_sub {g : GG} {l : Launch} {u : MU} {Q : FQ} {pc : Nat} {lv lv' : List (Nat × Value)} {st : List Value} {k n : Nat} {S : Mem} (ks : List Nat) (hl' : lv_pick lv ks = lv') (h : Run g l u Q pc lv' st k n S) : Run g l u Q pc lv st k n S :=
  fun p e s m args below meth c A H locs ls C hW hS hl => h p e s m args below meth c A H locs ls C hW hS (lv_sub hl ks hl')
theorem r_iconst {g : GG} {l : Launch} {u : MU} {Q : FQ} {pc : Nat} {lv : List (Nat × Value)} {st : List Value} {k n : Nat} {S : Mem} {i : Int} {v : Int32} (hd : decode (uC u) pc = .ok (.iconst i, 1)) (hv : Int32.ofInt i = v) (h : Run g l u Q (pc + 1) lv (.int v :: st) k n S) : Run g l u Q pc lv (st) k n S :=
  fun p e s m args below meth c A H locs ls C hW hS hl => lv_iconst C.1 C.2.1 hd hv (h p e s m args below meth c A H locs ls C hW hS hl)
theorem r_bipush {g : GG} {l : Launch} {u : MU} {Q : FQ} {pc : Nat} {lv : List (Nat × Value)} {st : List Value} {k n : Nat} {S : Mem} {i : Int} {v : Int32} (hd : decode (uC u) pc = .ok (.bipush i, 2)) (hv : (Int8.ofInt i).toInt32 = v) (h : Run g l u Q (pc + 2) lv (.int v :: st) k n S) : Run g l u Q pc lv (st) k n S :=
  fun p e s m args below meth c A H locs ls C hW hS hl => lv_bipush C.1 C.2.1 hd hv (h p e s m args below meth c A H locs ls C hW hS hl)
theorem r_sipush {g : GG} {l : Launch} {u : MU} {Q : FQ} {pc : Nat} {lv : List (Nat × Value)} {st : List Value} {k n : Nat} {S : Mem} {i : Int} {v : Int32} (hd : decode (uC u) pc = .ok (.sipush i, 3)) (hv : (Int16.ofInt i).toInt32 = v) (h : Run g l u Q (pc + 3) lv (.int v :: st) k n S) : Run g l u Q pc lv (st) k n S :=
  fun p e s m args below meth c A H locs ls C hW hS hl => lv_sipush C.1 C.2.1 hd hv (h p e s m args below meth c A H locs ls C hW hS hl)
theorem r_lconst {g : GG} {l : Launch} {u : MU} {Q : FQ} {pc : Nat} {lv : List (Nat × Value)} {st : List Value} {k n : Nat} {S : Mem} {i : Fin 2} {v : Int64} (hd : decode (uC u) pc = .ok (.lconst i, 1)) (hv : Int64.ofNat (i : Nat) = v) (h : Run g l u Q (pc + 1) lv (.long v :: st) k n S) : Run g l u Q pc lv (st) k n S :=
  fun p e s m args below meth c A H locs ls C hW hS hl => lv_lconst C.1 C.2.1 hd hv (h p e s m args below meth c A H locs ls C hW hS hl)
theorem r_iadd {g : GG} {l : Launch} {u : MU} {Q : FQ} {pc : Nat} {lv : List (Nat × Value)} {st : List Value} {k n : Nat} {S : Mem} {x y : Int32} (hd : decode (uC u) pc = .ok (.iadd, 1)) (h : Run g l u Q (pc + 1) lv (.int (x + y) :: st) k n S) : Run g l u Q pc lv (.int y :: .int x :: st) k n S :=
  fun p e s m args below meth c A H locs ls C hW hS hl => lv_iadd C.1 C.2.1 hd (h p e s m args below meth c A H locs ls C hW hS hl)
theorem r_isub {g : GG} {l : Launch} {u : MU} {Q : FQ} {pc : Nat} {lv : List (Nat × Value)} {st : List Value} {k n : Nat} {S : Mem} {x y : Int32} (hd : decode (uC u) pc = .ok (.isub, 1)) (h : Run g l u Q (pc + 1) lv (.int (x - y) :: st) k n S) : Run g l u Q pc lv (.int y :: .int x :: st) k n S :=
  fun p e s m args below meth c A H locs ls C hW hS hl => lv_isub C.1 C.2.1 hd (h p e s m args below meth c A H locs ls C hW hS hl)
theorem r_imul {g : GG} {l : Launch} {u : MU} {Q : FQ} {pc : Nat} {lv : List (Nat × Value)} {st : List Value} {k n : Nat} {S : Mem} {x y : Int32} (hd : decode (uC u) pc = .ok (.imul, 1)) (h : Run g l u Q (pc + 1) lv (.int (x * y) :: st) k n S) : Run g l u Q pc lv (.int y :: .int x :: st) k n S :=
  fun p e s m args below meth c A H locs ls C hW hS hl => lv_imul C.1 C.2.1 hd (h p e s m args below meth c A H locs ls C hW hS hl)
theorem r_iand {g : GG} {l : Launch} {u : MU} {Q : FQ} {pc : Nat} {lv : List (Nat × Value)} {st : List Value} {k n : Nat} {S : Mem} {x y : Int32} (hd : decode (uC u) pc = .ok (.iand, 1)) (h : Run g l u Q (pc + 1) lv (.int (x &&& y) :: st) k n S) : Run g l u Q pc lv (.int y :: .int x :: st) k n S :=
  fun p e s m args below meth c A H locs ls C hW hS hl => lv_iand C.1 C.2.1 hd (h p e s m args below meth c A H locs ls C hW hS hl)
theorem r_ior {g : GG} {l : Launch} {u : MU} {Q : FQ} {pc : Nat} {lv : List (Nat × Value)} {st : List Value} {k n : Nat} {S : Mem} {x y : Int32} (hd : decode (uC u) pc = .ok (.ior, 1)) (h : Run g l u Q (pc + 1) lv (.int (x ||| y) :: st) k n S) : Run g l u Q pc lv (.int y :: .int x :: st) k n S :=
  fun p e s m args below meth c A H locs ls C hW hS hl => lv_ior C.1 C.2.1 hd (h p e s m args below meth c A H locs ls C hW hS hl)
theorem r_ishl {g : GG} {l : Launch} {u : MU} {Q : FQ} {pc : Nat} {lv : List (Nat × Value)} {st : List Value} {k n : Nat} {S : Mem} {x y : Int32} (hd : decode (uC u) pc = .ok (.ishl, 1)) (h : Run g l u Q (pc + 1) lv (.int (x <<< (y &&& 31)) :: st) k n S) : Run g l u Q pc lv (.int y :: .int x :: st) k n S :=
  fun p e s m args below meth c A H locs ls C hW hS hl => lv_ishl C.1 C.2.1 hd (h p e s m args below meth c A H locs ls C hW hS hl)
theorem r_ishr {g : GG} {l : Launch} {u : MU} {Q : FQ} {pc : Nat} {lv : List (Nat × Value)} {st : List Value} {k n : Nat} {S : Mem} {x y : Int32} (hd : decode (uC u) pc = .ok (.ishr, 1)) (h : Run g l u Q (pc + 1) lv (.int (x >>> (y &&& 31)) :: st) k n S) : Run g l u Q pc lv (.int y :: .int x :: st) k n S :=
  fun p e s m args below meth c A H locs ls C hW hS hl => lv_ishr C.1 C.2.1 hd (h p e s m args below meth c A H locs ls C hW hS hl)
theorem r_land {g : GG} {l : Launch} {u : MU} {Q : FQ} {pc : Nat} {lv : List (Nat × Value)} {st : List Value} {k n : Nat} {S : Mem} {x y : Int64} (hd : decode (uC u) pc = .ok (.land, 1)) (h : Run g l u Q (pc + 1) lv (.long (x &&& y) :: st) k n S) : Run g l u Q pc lv (.long y :: .long x :: st) k n S :=
  fun p e s m args below meth c A H locs ls C hW hS hl => lv_land C.1 C.2.1 hd (h p e s m args below meth c A H locs ls C hW hS hl)
theorem r_lor {g : GG} {l : Launch} {u : MU} {Q : FQ} {pc : Nat} {lv : List (Nat × Value)} {st : List Value} {k n : Nat} {S : Mem} {x y : Int64} (hd : decode (uC u) pc = .ok (.lor, 1)) (h : Run g l u Q (pc + 1) lv (.long (x ||| y) :: st) k n S) : Run g l u Q pc lv (.long y :: .long x :: st) k n S :=
  fun p e s m args below meth c A H locs ls C hW hS hl => lv_lor C.1 C.2.1 hd (h p e s m args below meth c A H locs ls C hW hS hl)
theorem r_lsub {g : GG} {l : Launch} {u : MU} {Q : FQ} {pc : Nat} {lv : List (Nat × Value)} {st : List Value} {k n : Nat} {S : Mem} {x y : Int64} (hd : decode (uC u) pc = .ok (.lsub, 1)) (h : Run g l u Q (pc + 1) lv (.long (x - y) :: st) k n S) : Run g l u Q pc lv (.long y :: .long x :: st) k n S :=
  fun p e s m args below meth c A H locs ls C hW hS hl => lv_lsub C.1 C.2.1 hd (h p e s m args below meth c A H locs ls C hW hS hl)
theorem r_lshl {g : GG} {l : Launch} {u : MU} {Q : FQ} {pc : Nat} {lv : List (Nat × Value)} {st : List Value} {k n : Nat} {S : Mem} {x : Int64} {y : Int32} (hd : decode (uC u) pc = .ok (.lshl, 1)) (h : Run g l u Q (pc + 1) lv (.long (x <<< (y.toInt64 &&& 63)) :: st) k n S) : Run g l u Q pc lv (.int y :: .long x :: st) k n S :=
  fun p e s m args below meth c A H locs ls C hW hS hl => lv_lshl C.1 C.2.1 hd rfl (h p e s m args below meth c A H locs ls C hW hS hl)
theorem r_lshr {g : GG} {l : Launch} {u : MU} {Q : FQ} {pc : Nat} {lv : List (Nat × Value)} {st : List Value} {k n : Nat} {S : Mem} {x : Int64} {y : Int32} (hd : decode (uC u) pc = .ok (.lshr, 1)) (h : Run g l u Q (pc + 1) lv (.long (x >>> (y.toInt64 &&& 63)) :: st) k n S) : Run g l u Q pc lv (.int y :: .long x :: st) k n S :=
  fun p e s m args below meth c A H locs ls C hW hS hl => lv_lshr C.1 C.2.1 hd rfl (h p e s m args below meth c A H locs ls C hW hS hl)
theorem r_lushr {g : GG} {l : Launch} {u : MU} {Q : FQ} {pc : Nat} {lv : List (Nat × Value)} {st : List Value} {k n : Nat} {S : Mem} {x : Int64} {y : Int32} (hd : decode (uC u) pc = .ok (.lushr, 1)) (h : Run g l u Q (pc + 1) lv (.long ((x.toUInt64 >>> (y.toInt64.toUInt64 &&& Int64.toUInt64 63)).toInt64) :: st) k n S) : Run g l u Q pc lv (.int y :: .long x :: st) k n S :=
  fun p e s m args below meth c A H locs ls C hW hS hl => lv_lushr C.1 C.2.1 hd rfl (h p e s m args below meth c A H locs ls C hW hS hl)
theorem r_l2i {g : GG} {l : Launch} {u : MU} {Q : FQ} {pc : Nat} {lv : List (Nat × Value)} {st : List Value} {k n : Nat} {S : Mem} {x : Int64} (hd : decode (uC u) pc = .ok (.l2i, 1)) (h : Run g l u Q (pc + 1) lv (.int x.toInt32 :: st) k n S) : Run g l u Q pc lv (.long x :: st) k n S :=
  fun p e s m args below meth c A H locs ls C hW hS hl => lv_l2i C.1 C.2.1 hd rfl (h p e s m args below meth c A H locs ls C hW hS hl)
theorem r_i2l {g : GG} {l : Launch} {u : MU} {Q : FQ} {pc : Nat} {lv : List (Nat × Value)} {st : List Value} {k n : Nat} {S : Mem} {x : Int32} (hd : decode (uC u) pc = .ok (.i2l, 1)) (h : Run g l u Q (pc + 1) lv (.long x.toInt64 :: st) k n S) : Run g l u Q pc lv (.int x :: st) k n S :=
  fun p e s m args below meth c A H locs ls C hW hS hl => lv_i2l C.1 C.2.1 hd rfl (h p e s m args below meth c A H locs ls C hW hS hl)
theorem r_i2f {g : GG} {l : Launch} {u : MU} {Q : FQ} {pc : Nat} {lv : List (Nat × Value)} {st : List Value} {k n : Nat} {S : Mem} {x : Int32} (hd : decode (uC u) pc = .ok (.i2f, 1)) (h : Run g l u Q (pc + 1) lv (.float (FP.i2f x) :: st) k n S) : Run g l u Q pc lv (.int x :: st) k n S :=
  fun p e s m args below meth c A H locs ls C hW hS hl => lv_i2f C.1 C.2.1 hd (h p e s m args below meth c A H locs ls C hW hS hl)
theorem r_fadd {g : GG} {l : Launch} {u : MU} {Q : FQ} {pc : Nat} {lv : List (Nat × Value)} {st : List Value} {k n : Nat} {S : Mem} {x y : UInt32} (hd : decode (uC u) pc = .ok (.fadd, 1)) (hne : vf_n32 (FP.fadd x y)) (h : Run g l u Q (pc + 1) lv (.float (FP.fadd x y) :: st) k n S) : Run g l u Q pc lv (.float y :: .float x :: st) k n S :=
  fun p e s m args below meth c A H locs ls C hW hS hl => lv_fadd C.1 C.2.1 hd hne (h p e s m args below meth c A H locs ls C hW hS hl)
theorem r_fmul {g : GG} {l : Launch} {u : MU} {Q : FQ} {pc : Nat} {lv : List (Nat × Value)} {st : List Value} {k n : Nat} {S : Mem} {x y : UInt32} (hd : decode (uC u) pc = .ok (.fmul, 1)) (hne : vf_n32 (FP.fmul x y)) (h : Run g l u Q (pc + 1) lv (.float (FP.fmul x y) :: st) k n S) : Run g l u Q pc lv (.float y :: .float x :: st) k n S :=
  fun p e s m args below meth c A H locs ls C hW hS hl => lv_fmul C.1 C.2.1 hd hne (h p e s m args below meth c A H locs ls C hW hS hl)
theorem r_fdiv {g : GG} {l : Launch} {u : MU} {Q : FQ} {pc : Nat} {lv : List (Nat × Value)} {st : List Value} {k n : Nat} {S : Mem} {x y : UInt32} (hd : decode (uC u) pc = .ok (.fdiv, 1)) (hne : vf_n32 (FP.fdiv x y)) (h : Run g l u Q (pc + 1) lv (.float (FP.fdiv x y) :: st) k n S) : Run g l u Q pc lv (.float y :: .float x :: st) k n S :=
  fun p e s m args below meth c A H locs ls C hW hS hl => lv_fdiv C.1 C.2.1 hd hne (h p e s m args below meth c A H locs ls C hW hS hl)
theorem r_f2d {g : GG} {l : Launch} {u : MU} {Q : FQ} {pc : Nat} {lv : List (Nat × Value)} {st : List Value} {k n : Nat} {S : Mem} {x : UInt32} (hd : decode (uC u) pc = .ok (.f2d, 1)) (hne : vf_n64 (FP.f2d x)) (h : Run g l u Q (pc + 1) lv (.double (FP.f2d x) :: st) k n S) : Run g l u Q pc lv (.float x :: st) k n S :=
  fun p e s m args below meth c A H locs ls C hW hS hl => lv_f2d C.1 C.2.1 hd hne (h p e s m args below meth c A H locs ls C hW hS hl)
theorem r_fcmp {g : GG} {l : Launch} {u : MU} {Q : FQ} {pc : Nat} {lv : List (Nat × Value)} {st : List Value} {k n : Nat} {S : Mem} {x y : UInt32} {op : CmpOp} (hd : decode (uC u) pc = .ok (.fcmp op, 1)) (h : Run g l u Q (pc + 1) lv (.int (Op.cmpValue (FP.fcmp x y) op) :: st) k n S) : Run g l u Q pc lv (.float y :: .float x :: st) k n S :=
  fun p e s m args below meth c A H locs ls C hW hS hl => lv_fcmp C.1 C.2.1 hd (h p e s m args below meth c A H locs ls C hW hS hl)
theorem r_dcmp {g : GG} {l : Launch} {u : MU} {Q : FQ} {pc : Nat} {lv : List (Nat × Value)} {st : List Value} {k n : Nat} {S : Mem} {x y : UInt64} {op : CmpOp} (hd : decode (uC u) pc = .ok (.dcmp op, 1)) (h : Run g l u Q (pc + 1) lv (.int (Op.cmpValue (FP.dcmp x y) op) :: st) k n S) : Run g l u Q pc lv (.double y :: .double x :: st) k n S :=
  fun p e s m args below meth c A H locs ls C hW hS hl => lv_dcmp C.1 C.2.1 hd (h p e s m args below meth c A H locs ls C hW hS hl)
theorem r_dup {g : GG} {l : Launch} {u : MU} {Q : FQ} {pc : Nat} {lv : List (Nat × Value)} {st : List Value} {k n : Nat} {S : Mem} {v : Value} (hd : decode (uC u) pc = .ok (.dup, 1)) (hv : v.category = 1) (h : Run g l u Q (pc + 1) lv (v :: v :: st) k n S) : Run g l u Q pc lv (v :: st) k n S :=
  fun p e s m args below meth c A H locs ls C hW hS hl => lv_dup C.1 C.2.1 hd hv (h p e s m args below meth c A H locs ls C hW hS hl)
theorem r_pop {g : GG} {l : Launch} {u : MU} {Q : FQ} {pc : Nat} {lv : List (Nat × Value)} {st : List Value} {k n : Nat} {S : Mem} {v : Value} (hd : decode (uC u) pc = .ok (.pop, 1)) (hv : v.category = 1) (h : Run g l u Q (pc + 1) lv (st) k n S) : Run g l u Q pc lv (v :: st) k n S :=
  fun p e s m args below meth c A H locs ls C hW hS hl => lv_pop C.1 C.2.1 hd hv (h p e s m args below meth c A H locs ls C hW hS hl)
theorem r_idiv {g : GG} {l : Launch} {u : MU} {Q : FQ} {pc : Nat} {lv : List (Nat × Value)} {st : List Value} {k n : Nat} {S : Mem} {x y : Int32} (hd : decode (uC u) pc = .ok (.idiv, 1)) (hne : ¬ y = 0) (h : Run g l u Q (pc + 1) lv (.int (x / y) :: st) k n S) : Run g l u Q pc lv (.int y :: .int x :: st) k n S :=
  fun p e s m args below meth c A H locs ls C hW hS hl => lv_idiv C.1 C.2.1 hd hne (h p e s m args below meth c A H locs ls C hW hS hl)
theorem r_irem {g : GG} {l : Launch} {u : MU} {Q : FQ} {pc : Nat} {lv : List (Nat × Value)} {st : List Value} {k n : Nat} {S : Mem} {x y : Int32} (hd : decode (uC u) pc = .ok (.irem, 1)) (hne : ¬ y = 0) (h : Run g l u Q (pc + 1) lv (.int (x - x / y * y) :: st) k n S) : Run g l u Q pc lv (.int y :: .int x :: st) k n S :=
  fun p e s m args below meth c A H locs ls C hW hS hl => lv_irem C.1 C.2.1 hd hne (h p e s m args below meth c A H locs ls C hW hS hl)
theorem r_iload_n {g : GG} {l : Launch} {u : MU} {Q : FQ} {pc : Nat} {lv : List (Nat × Value)} {st : List Value} {k n : Nat} {S : Mem} {z : Fin 4} {i : Nat} {x : Int32} (hd : decode (uC u) pc = .ok (.iload_n z, 1)) (hi : (z : Nat) = i) (j : Nat) (hj : lv[j]? = some (i, .int x)) (h : Run g l u Q (pc + 1) lv (.int x :: st) k n S) : Run g l u Q pc lv st k n S :=
  fun p e s m args below meth c A H locs ls C hW hS hl => lv_iload_n C.1 C.2.1 hd hi (lv_at hl j hj) (h p e s m args below meth c A H locs ls C hW hS hl)
theorem r_iload {g : GG} {l : Launch} {u : MU} {Q : FQ} {pc : Nat} {lv : List (Nat × Value)} {st : List Value} {k n : Nat} {S : Mem} {i : Nat} {x : Int32} (hd : decode (uC u) pc = .ok (.iload i, 2)) (j : Nat) (hj : lv[j]? = some (i, .int x)) (h : Run g l u Q (pc + 2) lv (.int x :: st) k n S) : Run g l u Q pc lv st k n S :=
  fun p e s m args below meth c A H locs ls C hW hS hl => lv_iload C.1 C.2.1 hd (lv_at hl j hj) (h p e s m args below meth c A H locs ls C hW hS hl)
theorem r_aload_n {g : GG} {l : Launch} {u : MU} {Q : FQ} {pc : Nat} {lv : List (Nat × Value)} {st : List Value} {k n : Nat} {S : Mem} {z : Fin 4} {i : Nat} {x : Nat} (hd : decode (uC u) pc = .ok (.aload_n z, 1)) (hi : (z : Nat) = i) (j : Nat) (hj : lv[j]? = some (i, .ref x)) (h : Run g l u Q (pc + 1) lv (.ref x :: st) k n S) : Run g l u Q pc lv st k n S :=
  fun p e s m args below meth c A H locs ls C hW hS hl => lv_aload_n C.1 C.2.1 hd hi (lv_at hl j hj) (h p e s m args below meth c A H locs ls C hW hS hl)
theorem r_aload {g : GG} {l : Launch} {u : MU} {Q : FQ} {pc : Nat} {lv : List (Nat × Value)} {st : List Value} {k n : Nat} {S : Mem} {i : Nat} {x : Nat} (hd : decode (uC u) pc = .ok (.aload i, 2)) (j : Nat) (hj : lv[j]? = some (i, .ref x)) (h : Run g l u Q (pc + 2) lv (.ref x :: st) k n S) : Run g l u Q pc lv st k n S :=
  fun p e s m args below meth c A H locs ls C hW hS hl => lv_aload C.1 C.2.1 hd (lv_at hl j hj) (h p e s m args below meth c A H locs ls C hW hS hl)
theorem r_lload_n {g : GG} {l : Launch} {u : MU} {Q : FQ} {pc : Nat} {lv : List (Nat × Value)} {st : List Value} {k n : Nat} {S : Mem} {z : Fin 4} {i : Nat} {x : Int64} (hd : decode (uC u) pc = .ok (.lload_n z, 1)) (hi : (z : Nat) = i) (j : Nat) (hj : lv[j]? = some (i, .long x)) (h : Run g l u Q (pc + 1) lv (.long x :: st) k n S) : Run g l u Q pc lv st k n S :=
  fun p e s m args below meth c A H locs ls C hW hS hl => lv_lload_n C.1 C.2.1 hd hi (lv_at hl j hj) (h p e s m args below meth c A H locs ls C hW hS hl)
theorem r_fload_n {g : GG} {l : Launch} {u : MU} {Q : FQ} {pc : Nat} {lv : List (Nat × Value)} {st : List Value} {k n : Nat} {S : Mem} {z : Fin 4} {i : Nat} {x : UInt32} (hd : decode (uC u) pc = .ok (.fload_n z, 1)) (hi : (z : Nat) = i) (j : Nat) (hj : lv[j]? = some (i, .float x)) (h : Run g l u Q (pc + 1) lv (.float x :: st) k n S) : Run g l u Q pc lv st k n S :=
  fun p e s m args below meth c A H locs ls C hW hS hl => lv_fload_n C.1 C.2.1 hd hi (lv_at hl j hj) (h p e s m args below meth c A H locs ls C hW hS hl)
theorem r_fload {g : GG} {l : Launch} {u : MU} {Q : FQ} {pc : Nat} {lv : List (Nat × Value)} {st : List Value} {k n : Nat} {S : Mem} {i : Nat} {x : UInt32} (hd : decode (uC u) pc = .ok (.fload i, 2)) (j : Nat) (hj : lv[j]? = some (i, .float x)) (h : Run g l u Q (pc + 2) lv (.float x :: st) k n S) : Run g l u Q pc lv st k n S :=
  fun p e s m args below meth c A H locs ls C hW hS hl => lv_fload C.1 C.2.1 hd (lv_at hl j hj) (h p e s m args below meth c A H locs ls C hW hS hl)
theorem r_istore_n {g : GG} {l : Launch} {u : MU} {Q : FQ} {pc : Nat} {lv : List (Nat × Value)} {st : List Value} {k n : Nat} {S : Mem} {z : Fin 4} {i : Nat} {x : Int32} {lv' : List (Nat × Value)} (hd : decode (uC u) pc = .ok (.istore_n z, 1)) (hi : (z : Nat) = i) (hn : i < uN u) (hl' : (i, Value.int x) :: lv.filter (fun q => !(q.1 == i) && !(q.1 + 1 == i && q.2.category == 2)) = lv') (h : Run g l u Q (pc + 1) lv' st k n S) : Run g l u Q pc lv (.int x :: st) k n S :=
  fun p e s m args below meth c A H locs ls C hW hS hl => lv_istore_n C.1 C.2.1 hd hi hl hn hl' (fun ls hl => h p e s m args below meth c A H locs ls C hW hS hl)
theorem r_istore {g : GG} {l : Launch} {u : MU} {Q : FQ} {pc : Nat} {lv : List (Nat × Value)} {st : List Value} {k n : Nat} {S : Mem} {i : Nat} {x : Int32} {lv' : List (Nat × Value)} (hd : decode (uC u) pc = .ok (.istore i, 2)) (hn : i < uN u) (hl' : (i, Value.int x) :: lv.filter (fun q => !(q.1 == i) && !(q.1 + 1 == i && q.2.category == 2)) = lv') (h : Run g l u Q (pc + 2) lv' st k n S) : Run g l u Q pc lv (.int x :: st) k n S :=
  fun p e s m args below meth c A H locs ls C hW hS hl => lv_istore C.1 C.2.1 hd hl hn hl' (fun ls hl => h p e s m args below meth c A H locs ls C hW hS hl)
theorem r_astore_n {g : GG} {l : Launch} {u : MU} {Q : FQ} {pc : Nat} {lv : List (Nat × Value)} {st : List Value} {k n : Nat} {S : Mem} {z : Fin 4} {i : Nat} {x : Nat} {lv' : List (Nat × Value)} (hd : decode (uC u) pc = .ok (.astore_n z, 1)) (hi : (z : Nat) = i) (hn : i < uN u) (hl' : (i, Value.ref x) :: lv.filter (fun q => !(q.1 == i) && !(q.1 + 1 == i && q.2.category == 2)) = lv') (h : Run g l u Q (pc + 1) lv' st k n S) : Run g l u Q pc lv (.ref x :: st) k n S :=
  fun p e s m args below meth c A H locs ls C hW hS hl => lv_astore_n C.1 C.2.1 hd hi hl hn hl' (fun ls hl => h p e s m args below meth c A H locs ls C hW hS hl)
theorem r_astore {g : GG} {l : Launch} {u : MU} {Q : FQ} {pc : Nat} {lv : List (Nat × Value)} {st : List Value} {k n : Nat} {S : Mem} {i : Nat} {x : Nat} {lv' : List (Nat × Value)} (hd : decode (uC u) pc = .ok (.astore i, 2)) (hn : i < uN u) (hl' : (i, Value.ref x) :: lv.filter (fun q => !(q.1 == i) && !(q.1 + 1 == i && q.2.category == 2)) = lv') (h : Run g l u Q (pc + 2) lv' st k n S) : Run g l u Q pc lv (.ref x :: st) k n S :=
  fun p e s m args below meth c A H locs ls C hW hS hl => lv_astore C.1 C.2.1 hd hl hn hl' (fun ls hl => h p e s m args below meth c A H locs ls C hW hS hl)
theorem r_fstore_n {g : GG} {l : Launch} {u : MU} {Q : FQ} {pc : Nat} {lv : List (Nat × Value)} {st : List Value} {k n : Nat} {S : Mem} {z : Fin 4} {i : Nat} {x : UInt32} {lv' : List (Nat × Value)} (hd : decode (uC u) pc = .ok (.fstore_n z, 1)) (hi : (z : Nat) = i) (hn : i < uN u) (hl' : (i, Value.float x) :: lv.filter (fun q => !(q.1 == i) && !(q.1 + 1 == i && q.2.category == 2)) = lv') (h : Run g l u Q (pc + 1) lv' st k n S) : Run g l u Q pc lv (.float x :: st) k n S :=
  fun p e s m args below meth c A H locs ls C hW hS hl => lv_fstore_n C.1 C.2.1 hd hi hl hn hl' (fun ls hl => h p e s m args below meth c A H locs ls C hW hS hl)
theorem r_fstore {g : GG} {l : Launch} {u : MU} {Q : FQ} {pc : Nat} {lv : List (Nat × Value)} {st : List Value} {k n : Nat} {S : Mem} {i : Nat} {x : UInt32} {lv' : List (Nat × Value)} (hd : decode (uC u) pc = .ok (.fstore i, 2)) (hn : i < uN u) (hl' : (i, Value.float x) :: lv.filter (fun q => !(q.1 == i) && !(q.1 + 1 == i && q.2.category == 2)) = lv') (h : Run g l u Q (pc + 2) lv' st k n S) : Run g l u Q pc lv (.float x :: st) k n S :=
  fun p e s m args below meth c A H locs ls C hW hS hl => lv_fstore C.1 C.2.1 hd hl hn hl' (fun ls hl => h p e s m args below meth c A H locs ls C hW hS hl)
theorem r_iinc {g : GG} {l : Launch} {u : MU} {Q : FQ} {pc : Nat} {lv : List (Nat × Value)} {st : List Value} {k n : Nat} {S : Mem} {i : Nat} {d : Int} {x v : Int32} {lv' : List (Nat × Value)} (hd : decode (uC u) pc = .ok (.iinc i d, 3)) (j : Nat) (hj : lv[j]? = some (i, .int x)) (hv : x + Int32.ofInt d = v) (hn : i < uN u) (hl' : (i, Value.int v) :: lv.filter (fun q => !(q.1 == i) && !(q.1 + 1 == i && q.2.category == 2)) = lv') (h : Run g l u Q (pc + 3) lv' st k n S) : Run g l u Q pc lv st k n S :=
  fun p e s m args below meth c A H locs ls C hW hS hl => lv_iinc C.1 C.2.1 hd hl hj hv hn hl' (fun ls hl => h p e s m args below meth c A H locs ls C hW hS hl)
theorem r_if_eq {g : GG} {l : Launch} {u : MU} {Q : FQ} {pc : Nat} {lv : List (Nat × Value)} {st : List Value} {k n : Nat} {S : Mem} {x : Int32} {off : Int} {tgt : Nat} (hd : decode (uC u) pc = .ok (.ifCond .eq off, 3)) (ht : (pc : Int) + off = (tgt : Int)) (ht' : x = 0 → Run g l u Q tgt lv st k n S) (hf' : ¬ x = 0 → Run g l u Q (pc + 3) lv st k n S) : Run g l u Q pc lv (.int x :: st) k n S :=
  fun p e s m args below meth c A H locs ls C hW hS hl => lv_if_eq C.1 C.2.1 hd ht (fun q => ht' q p e s m args below meth c A H locs ls C hW hS hl) (fun q => hf' q p e s m args below meth c A H locs ls C hW hS hl)
theorem r_icmp_eq {g : GG} {l : Launch} {u : MU} {Q : FQ} {pc : Nat} {lv : List (Nat × Value)} {st : List Value} {k n : Nat} {S : Mem} {x y : Int32} {off : Int} {tgt : Nat} (hd : decode (uC u) pc = .ok (.if_icmp .eq off, 3)) (ht : (pc : Int) + off = (tgt : Int)) (ht' : x = y → Run g l u Q tgt lv st k n S) (hf' : ¬ x = y → Run g l u Q (pc + 3) lv st k n S) : Run g l u Q pc lv (.int y :: .int x :: st) k n S :=
  fun p e s m args below meth c A H locs ls C hW hS hl => lv_icmp_eq C.1 C.2.1 hd ht (fun q => ht' q p e s m args below meth c A H locs ls C hW hS hl) (fun q => hf' q p e s m args below meth c A H locs ls C hW hS hl)
theorem r_if_ne {g : GG} {l : Launch} {u : MU} {Q : FQ} {pc : Nat} {lv : List (Nat × Value)} {st : List Value} {k n : Nat} {S : Mem} {x : Int32} {off : Int} {tgt : Nat} (hd : decode (uC u) pc = .ok (.ifCond .ne off, 3)) (ht : (pc : Int) + off = (tgt : Int)) (ht' : ¬ x = 0 → Run g l u Q tgt lv st k n S) (hf' : x = 0 → Run g l u Q (pc + 3) lv st k n S) : Run g l u Q pc lv (.int x :: st) k n S :=
  fun p e s m args below meth c A H locs ls C hW hS hl => lv_if_ne C.1 C.2.1 hd ht (fun q => ht' q p e s m args below meth c A H locs ls C hW hS hl) (fun q => hf' q p e s m args below meth c A H locs ls C hW hS hl)
theorem r_icmp_ne {g : GG} {l : Launch} {u : MU} {Q : FQ} {pc : Nat} {lv : List (Nat × Value)} {st : List Value} {k n : Nat} {S : Mem} {x y : Int32} {off : Int} {tgt : Nat} (hd : decode (uC u) pc = .ok (.if_icmp .ne off, 3)) (ht : (pc : Int) + off = (tgt : Int)) (ht' : ¬ x = y → Run g l u Q tgt lv st k n S) (hf' : x = y → Run g l u Q (pc + 3) lv st k n S) : Run g l u Q pc lv (.int y :: .int x :: st) k n S :=
  fun p e s m args below meth c A H locs ls C hW hS hl => lv_icmp_ne C.1 C.2.1 hd ht (fun q => ht' q p e s m args below meth c A H locs ls C hW hS hl) (fun q => hf' q p e s m args below meth c A H locs ls C hW hS hl)
theorem r_if_lt {g : GG} {l : Launch} {u : MU} {Q : FQ} {pc : Nat} {lv : List (Nat × Value)} {st : List Value} {k n : Nat} {S : Mem} {x : Int32} {off : Int} {tgt : Nat} (hd : decode (uC u) pc = .ok (.ifCond .lt off, 3)) (ht : (pc : Int) + off = (tgt : Int)) (ht' : x < 0 → Run g l u Q tgt lv st k n S) (hf' : ¬ x < 0 → Run g l u Q (pc + 3) lv st k n S) : Run g l u Q pc lv (.int x :: st) k n S :=
  fun p e s m args below meth c A H locs ls C hW hS hl => lv_if_lt C.1 C.2.1 hd ht (fun q => ht' q p e s m args below meth c A H locs ls C hW hS hl) (fun q => hf' q p e s m args below meth c A H locs ls C hW hS hl)
theorem r_icmp_lt {g : GG} {l : Launch} {u : MU} {Q : FQ} {pc : Nat} {lv : List (Nat × Value)} {st : List Value} {k n : Nat} {S : Mem} {x y : Int32} {off : Int} {tgt : Nat} (hd : decode (uC u) pc = .ok (.if_icmp .lt off, 3)) (ht : (pc : Int) + off = (tgt : Int)) (ht' : x < y → Run g l u Q tgt lv st k n S) (hf' : ¬ x < y → Run g l u Q (pc + 3) lv st k n S) : Run g l u Q pc lv (.int y :: .int x :: st) k n S :=
  fun p e s m args below meth c A H locs ls C hW hS hl => lv_icmp_lt C.1 C.2.1 hd ht (fun q => ht' q p e s m args below meth c A H locs ls C hW hS hl) (fun q => hf' q p e s m args below meth c A H locs ls C hW hS hl)
theorem r_if_ge {g : GG} {l : Launch} {u : MU} {Q : FQ} {pc : Nat} {lv : List (Nat × Value)} {st : List Value} {k n : Nat} {S : Mem} {x : Int32} {off : Int} {tgt : Nat} (hd : decode (uC u) pc = .ok (.ifCond .ge off, 3)) (ht : (pc : Int) + off = (tgt : Int)) (ht' : 0 ≤ x → Run g l u Q tgt lv st k n S) (hf' : ¬ 0 ≤ x → Run g l u Q (pc + 3) lv st k n S) : Run g l u Q pc lv (.int x :: st) k n S :=
  fun p e s m args below meth c A H locs ls C hW hS hl => lv_if_ge C.1 C.2.1 hd ht (fun q => ht' q p e s m args below meth c A H locs ls C hW hS hl) (fun q => hf' q p e s m args below meth c A H locs ls C hW hS hl)
theorem r_icmp_ge {g : GG} {l : Launch} {u : MU} {Q : FQ} {pc : Nat} {lv : List (Nat × Value)} {st : List Value} {k n : Nat} {S : Mem} {x y : Int32} {off : Int} {tgt : Nat} (hd : decode (uC u) pc = .ok (.if_icmp .ge off, 3)) (ht : (pc : Int) + off = (tgt : Int)) (ht' : y ≤ x → Run g l u Q tgt lv st k n S) (hf' : ¬ y ≤ x → Run g l u Q (pc + 3) lv st k n S) : Run g l u Q pc lv (.int y :: .int x :: st) k n S :=
  fun p e s m args below meth c A H locs ls C hW hS hl => lv_icmp_ge C.1 C.2.1 hd ht (fun q => ht' q p e s m args below meth c A H locs ls C hW hS hl) (fun q => hf' q p e s m args below meth c A H locs ls C hW hS hl)
theorem r_if_gt {g : GG} {l : Launch} {u : MU} {Q : FQ} {pc : Nat} {lv : List (Nat × Value)} {st : List Value} {k n : Nat} {S : Mem} {x : Int32} {off : Int} {tgt : Nat} (hd : decode (uC u) pc = .ok (.ifCond .gt off, 3)) (ht : (pc : Int) + off = (tgt : Int)) (ht' : 0 < x → Run g l u Q tgt lv st k n S) (hf' : ¬ 0 < x → Run g l u Q (pc + 3) lv st k n S) : Run g l u Q pc lv (.int x :: st) k n S :=
  fun p e s m args below meth c A H locs ls C hW hS hl => lv_if_gt C.1 C.2.1 hd ht (fun q => ht' q p e s m args below meth c A H locs ls C hW hS hl) (fun q => hf' q p e s m args below meth c A H locs ls C hW hS hl)
theorem r_icmp_gt {g : GG} {l : Launch} {u : MU} {Q : FQ} {pc : Nat} {lv : List (Nat × Value)} {st : List Value} {k n : Nat} {S : Mem} {x y : Int32} {off : Int} {tgt : Nat} (hd : decode (uC u) pc = .ok (.if_icmp .gt off, 3)) (ht : (pc : Int) + off = (tgt : Int)) (ht' : y < x → Run g l u Q tgt lv st k n S) (hf' : ¬ y < x → Run g l u Q (pc + 3) lv st k n S) : Run g l u Q pc lv (.int y :: .int x :: st) k n S :=
  fun p e s m args below meth c A H locs ls C hW hS hl => lv_icmp_gt C.1 C.2.1 hd ht (fun q => ht' q p e s m args below meth c A H locs ls C hW hS hl) (fun q => hf' q p e s m args below meth c A H locs ls C hW hS hl)
theorem r_if_le {g : GG} {l : Launch} {u : MU} {Q : FQ} {pc : Nat} {lv : List (Nat × Value)} {st : List Value} {k n : Nat} {S : Mem} {x : Int32} {off : Int} {tgt : Nat} (hd : decode (uC u) pc = .ok (.ifCond .le off, 3)) (ht : (pc : Int) + off = (tgt : Int)) (ht' : x ≤ 0 → Run g l u Q tgt lv st k n S) (hf' : ¬ x ≤ 0 → Run g l u Q (pc + 3) lv st k n S) : Run g l u Q pc lv (.int x :: st) k n S :=
  fun p e s m args below meth c A H locs ls C hW hS hl => lv_if_le C.1 C.2.1 hd ht (fun q => ht' q p e s m args below meth c A H locs ls C hW hS hl) (fun q => hf' q p e s m args below meth c A H locs ls C hW hS hl)
theorem r_icmp_le {g : GG} {l : Launch} {u : MU} {Q : FQ} {pc : Nat} {lv : List (Nat × Value)} {st : List Value} {k n : Nat} {S : Mem} {x y : Int32} {off : Int} {tgt : Nat} (hd : decode (uC u) pc = .ok (.if_icmp .le off, 3)) (ht : (pc : Int) + off = (tgt : Int)) (ht' : x ≤ y → Run g l u Q tgt lv st k n S) (hf' : ¬ x ≤ y → Run g l u Q (pc + 3) lv st k n S) : Run g l u Q pc lv (.int y :: .int x :: st) k n S :=
  fun p e s m args below meth c A H locs ls C hW hS hl => lv_icmp_le C.1 C.2.1 hd ht (fun q => ht' q p e s m args below meth c A H locs ls C hW hS hl) (fun q => hf' q p e s m args below meth c A H locs ls C hW hS hl)
theorem r_goto {g : GG} {l : Launch} {u : MU} {Q : FQ} {pc : Nat} {lv : List (Nat × Value)} {st : List Value} {k n : Nat} {S : Mem} {off : Int} {tgt : Nat} (hd : decode (uC u) pc = .ok (.goto off, 3)) (ht : (pc : Int) + off = (tgt : Int)) (h : Run g l u Q tgt lv st k n S) : Run g l u Q pc lv st k n S :=
  fun p e s m args below meth c A H locs ls C hW hS hl => lv_goto C.1 C.2.1 hd ht (h p e s m args below meth c A H locs ls C hW hS hl)
theorem r_fconst0 {g : GG} {l : Launch} {u : MU} {Q : FQ} {pc : Nat} {lv : List (Nat × Value)} {st : List Value} {k n : Nat} {S : Mem} (hd : decode (uC u) pc = .ok (.fconst 0, 1)) (h : Run g l u Q (pc + 1) lv (.float FP.fconst0 :: st) k n S) : Run g l u Q pc lv st k n S :=
  fun p e s m args below meth c A H locs ls C hW hS hl => lv_fconst0 C.1 C.2.1 hd (h p e s m args below meth c A H locs ls C hW hS hl)
theorem r_lcmp {g : GG} {l : Launch} {u : MU} {Q : FQ} {pc : Nat} {lv : List (Nat × Value)} {st : List Value} {k n : Nat} {S : Mem} {x y : Int64} (hd : decode (uC u) pc = .ok (.lcmp, 1)) (h : Run g l u Q (pc + 1) lv (.int (lg_cmp x y) :: st) k n S) : Run g l u Q pc lv (.long y :: .long x :: st) k n S :=
  fun p e s m args below meth c A H locs ls C hW hS hl => W.lcmp C.1 C.2.1 hd (h p e s m args below meth c A H locs ls C hW hS hl)
theorem r_dup2 {g : GG} {l : Launch} {u : MU} {Q : FQ} {pc : Nat} {lv : List (Nat × Value)} {st : List Value} {k n : Nat} {S : Mem} {va vb : Value} (hd : decode (uC u) pc = .ok (.dup2, 1)) (hva : va.category = 1) (hvb : vb.category = 1) (h : Run g l u Q (pc + 1) lv (va :: vb :: va :: vb :: st) k n S) : Run g l u Q pc lv (va :: vb :: st) k n S :=
  fun p e s m args below meth c A H locs ls C hW hS hl => lv_dup2_11 C.1 C.2.1 hd hva hvb (h p e s m args below meth c A H locs ls C hW hS hl)
theorem r_ldcf {g : GG} {l : Launch} {u : MU} {Q : FQ} {pc : Nat} {lv : List (Nat × Value)} {st : List Value} {k n : Nat} {S : Mem} {index : Nat} {v : UInt32} (hd : decode (uC u) pc = .ok (.ldc index, 2)) (hm : Cond.constantFloat (uY u).cls index v ∈ lw_tbl) (h : Run g l u Q (pc + 2) lv (.float v :: st) k n S) : Run g l u Q pc lv st k n S :=
  fun p e s m args below meth c A H locs ls C hW hS hl => lv_ldcf C.1 C.2.1 C.2.2.2.2.1 (Cx_w C hm rfl) hd (h p e s m args below meth c A H locs ls C hW hS hl)
theorem r_ldc2 {g : GG} {l : Launch} {u : MU} {Q : FQ} {pc : Nat} {lv : List (Nat × Value)} {st : List Value} {k n : Nat} {S : Mem} {index : Nat} {v : Int64} (hd : decode (uC u) pc = .ok (.ldc2_w index, 3)) (hm : Cond.constantLong (uY u).cls index v ∈ lw_tbl) (h : Run g l u Q (pc + 3) lv (.long v :: st) k n S) : Run g l u Q pc lv st k n S :=
  fun p e s m args below meth c A H locs ls C hW hS hl => lv_ldc2 C.1 C.2.1 C.2.2.2.2.1 (Cx_w C hm rfl) hd (h p e s m args below meth c A H locs ls C hW hS hl)
