/-! Throws and their catching; tables; what is made; arraycopy; Math. -/
def exN : List String := ["java/lang/RuntimeException", "java/lang/Exception"]
theorem gw_ot {w : Cond} (h : gw w = true) : vx_ot w = true := by
  rcases Bool.or_eq_true_iff.mp h with h1 | h1
  · simp [vx_ot, h1]
  · cases w <;> first | (simp [nestWord] at h1; done) | rfl
/-- what the tables say of 'throw new E(text)' -/
def TW (ik ic : Nat) (cls : String) : Prop := Bundle.fit cls = true ∧ Cond.classLink RX5 ik cls ∈ lw_tbl ∧ Cond.initialized cls ∈ lw_tbl ∧ ∀ w ∈ vx_atS RX5 ic cls exN, w ∈ lw_tbl ∧ gw w = true
section RX
variable {g : GG} {l : Launch} {u u2 : MU} {Q : FQ} {pc : Nat} {lv : List (Nat × Value)} {st : List Value} {k n : Nat} {S S1 : Mem}
theorem exN_fit : ∀ x ∈ exN, Bundle.fit x = true := by decide +kernel
theorem thrown_ok {A : Nat → Prop} {H : Heap} {locs : List Loc} {s : State} {cls : String} {mc : Nat} (hf : uF u = false) (hW : okW g A S H s k (uF u)) (hS : va_S A s.heap H locs) (t : State) (h1 : H.size ≤ t.heap.size) (h2 : ∀ q : Nat, q < H.size → t.heap[q]? = H[q]?) : rX g A (.inr cls) S mc (uF u) cls s t := by
  refine ⟨rfl, ⟨hW.1.kept (fun i x hx => h2 x.1 (hW.1 i x hx).lt), hW.2.1, hW.2.2.1, fun q => absurd (hf.symm.trans q) (by decide)⟩, Nat.le_trans hS.1 h1, fun q hq hn => ?_⟩
  rw [h2 q (Nat.lt_of_lt_of_le hq hS.1)]
  exact hS.2.1 q hq hn
theorem r_throwS {cls text : String} {ik is ic : Nat} (hw : TW ik ic cls) (hown : (uY u).cls = RX5) (hstr : (is, text) ∈ strT)
    (d0 : decode (uC u) pc = .ok (.new ik, 3)) (d3 : decode (uC u) (pc + 3) = .ok (.dup, 1)) (d4 : decode (uC u) (pc + 4) = .ok (.ldc is, 2)) (d6 : decode (uC u) (pc + 6) = .ok (.invokespecial ic, 3)) (d9 : decode (uC u) (pc + 9) = .ok (.athrow, 1))
    (hH : uH u = []) (hf : uF u = false) (hRf : 5 < (uR u).frames) (hRl : (st.map fun v => v.category).sum + 82 ≤ (uR u).locals) (hc : k + 1 ≤ (uR u).cells) (hs : n + 6 ≤ (uR u).slots) : Run g l u (fin g u (.inr cls) S) pc lv st k n S := by
  intro p e s m args below meth c A H locs ls C hW hS hl
  obtain ⟨t1, t2, t3, t4⟩ := hw
  have hG := C.2.2.2.2.2.2.2.2.1
  obtain ⟨sa, hsa⟩ := hG.2.1 _ hstr
  have hown' : s.vm.findClass RX5 = some m.cls := by rw [← hown]; exact C.2.2.2.2.1
  refine vx_throwS (names := exN) (sa := sa) (ik := ik) (is := is) (ic := ic) (text := text) (A := A) C.1 C.2.1 C.2.2.2.2.2.2.2.1 hown' t1 exN_fit (Cx_w C t2 rfl) (Cx_w C t3 rfl) hsa (fun w hw => Cx_w C (t4 w hw).1 (t4 w hw).2) ?_ hG.2.2.2.1.1 hG.2.2.2.1.2 hS (by rw [hl.1]; exact C.2.2.2.1.symm) d0 d3 d4 d6 d9 ?_ hRf hRl hc hs C.2.2.2.2.2.1 (fun t _ h1 h2 => thrown_ok hf hW hS t h1 h2) hS.2.2 hc hs
  · intro w hw
    rcases List.mem_cons.mp hw with rfl | hw
    · rfl
    · rcases List.mem_cons.mp hw with rfl | hw
      · rfl
      · exact gw_ot (t4 w hw).2
  · intro x hx
    rw [C.2.2.2.2.2.2.2.2.2.2, hH] at hx
    cases hx
theorem r_throwSW {cls text : String} {ik is ic : Nat} (hw : TW ik ic cls) (hown : (uY u).cls = RX5) (hstr : (is, text) ∈ strT)
    (d0 : decode (uC u) pc = .ok (.new ik, 3)) (d3 : decode (uC u) (pc + 3) = .ok (.dup, 1)) (d4 : decode (uC u) (pc + 4) = .ok (.ldc_w is, 3)) (d7 : decode (uC u) (pc + 7) = .ok (.invokespecial ic, 3)) (d10 : decode (uC u) (pc + 10) = .ok (.athrow, 1))
    (hH : uH u = []) (hf : uF u = false) (hRf : 5 < (uR u).frames) (hRl : (st.map fun v => v.category).sum + 82 ≤ (uR u).locals) (hc : k + 1 ≤ (uR u).cells) (hs : n + 6 ≤ (uR u).slots) : Run g l u (fin g u (.inr cls) S) pc lv st k n S := by
  intro p e s m args below meth c A H locs ls C hW hS hl
  obtain ⟨t1, t2, t3, t4⟩ := hw
  have hG := C.2.2.2.2.2.2.2.2.1
  obtain ⟨sa, hsa⟩ := hG.2.1 _ hstr
  have hown' : s.vm.findClass RX5 = some m.cls := by rw [← hown]; exact C.2.2.2.2.1
  refine vx_throwSW (names := exN) (sa := sa) (ik := ik) (is := is) (ic := ic) (text := text) (A := A) C.1 C.2.1 C.2.2.2.2.2.2.2.1 hown' t1 exN_fit (Cx_w C t2 rfl) (Cx_w C t3 rfl) hsa (fun w hw => Cx_w C (t4 w hw).1 (t4 w hw).2) ?_ hG.2.2.2.1.1 hG.2.2.2.1.2 hS (by rw [hl.1]; exact C.2.2.2.1.symm) d0 d3 d4 d7 d10 ?_ hRf hRl hc hs C.2.2.2.2.2.1 (fun t _ h1 h2 => thrown_ok hf hW hS t h1 h2) hS.2.2 hc hs
  · intro w hw
    rcases List.mem_cons.mp hw with rfl | hw
    · rfl
    · rcases List.mem_cons.mp hw with rfl | hw
      · rfl
      · exact gw_ot (t4 w hw).2
  · intro x hx
    rw [C.2.2.2.2.2.2.2.2.2.2, hH] at hx
    cases hx
/-- what is thrown by the callee goes on to the caller -/
theorem r_invV_x {idx np ci b : Nat} {As st0 : List Value} {E : String} (hd : decode (uC u) pc = .ok (.invokevirtual idx, 3)) (hlk : LV (uY u).cls idx u2 np ci) (hr : RM u u2 k n) (hst : (st.map fun v => v.category).sum ≤ 8) (hnp : As.length = np) (h0 : st0 = As.reverse ++ .ref b :: st) (ho : ok S b ci)
    (hH : uH u = []) (hf : uF u = false) (hc : Call g l u2 (.ref b :: As) S (.inr E) S1) : Run g l u (fin g u (.inr E) S1) pc lv st0 k n S := by
  subst h0
  intro p e s m args below meth c A H locs ls C hW hS hl T hT X
  have hz : uF u = true → H.size = mX S := fun q => absurd (hf.symm.trans q) (by decide)
  have hA := C.2.2.2.2.2.2.2.2.2.1
  have hrun := vx_runV (Ts := []) (e := e) (below := below) (meth := meth) (H := H) (locs := locs) (cells := k) (slots := n) (g := F0 m pc ls (As.reverse ++ .ref b :: st)) (rest := st) ⟨C.1, C.2.1, C.2.2.2.1, C.2.2.2.2.1, fun w hw => nomatch hw⟩ (hc H.size) ⟨callB C hlk.1 hr, Cx_w C hlk.2.1 rfl, Cx_w C hlk.2.2.1 rfl⟩ ⟨cP_blind, rcv_of C hW hlk ho, pre_of C hW hS hr.2.2.2.2.1 hz (.ref b :: As)⟩ rfl hnp hl.1 rfl (lv_room hst) hd ⟨hr.2.2.1, hr.2.2.2.1⟩
  rcases hrun T hT X with ⟨v', st₀, t, T', L, h0, X', hL, e1, e2, hq, stp⟩ | ⟨q, st₀, t, T', L, E', ce, h0, X', hL, e1, e2, hx, hce, hcv, hcl, stp⟩
  · exact hq.elim
  · obtain ⟨rfl, hq, hF⟩ := hx
    obtain ⟨-, -, k3⟩ := vx_keep h0 e1 hS (fun q _ hq => free_in hW hS hA q hq) (free_in hW hS hA) hL hF
    have hok := after_call hr.2.2.2.2.1 hr.2.2.2.2.2 hz hW hS hA h0 hq
    rw [← e1] at hok
    have hout := vx_out (Qc := rQ g A (.inr E') S1 (uR u).cells (uF u)) (XC := rX g A (.inr E') S1 (uR u).cells (uF u)) (free := A) (ls := ls) (rest := st) (pc := pc) (e := e) (below := below) (args := args) (R := uR u) (l := l) (p := p) (locs := locs ++ L) (cells := k + (uR u2).cells) (slots := n + (uR u2).slots) (H := T'.heap) (m := m) (meth := meth) (c := c) (s := s) (mc := (uR u).cells) (ms := (uR u).slots)
      (fun x hx => by rw [C.2.2.2.2.2.2.2.2.2.2, hH] at hx; cases hx) C.2.2.2.2.2.1 (by rw [e1]; exact hce) hcv hcl (fun t2 ht2 _ => ⟨rfl, by rw [ht2]; exact ⟨hok.1, hok.2.1, hok.2.2.1, fun q => absurd (hf.symm.trans q) (by decide)⟩, k3.F ht2⟩) k3.2.2 hr.2.2.1 hr.2.2.2.1
    obtain ⟨t2, a1, b1⟩ := hout T' rfl X'
    exact ⟨t2, stp.trans a1, b1⟩
theorem r_invS_x {idx np : Nat} {As st0 : List Value} {E : String} (hd : decode (uC u) pc = .ok (.invokestatic idx, 3)) (hlk : LSt (uY u).cls idx u2 np) (hr : RM u u2 k n) (hst : (st.map fun v => v.category).sum ≤ 8) (hnp : As.length = np) (h0 : st0 = As.reverse ++ st)
    (hH : uH u = []) (hf : uF u = false) (hc : Call g l u2 As S (.inr E) S1) : Run g l u (fin g u (.inr E) S1) pc lv st0 k n S := by
  subst h0
  intro p e s m args below meth c A H locs ls C hW hS hl T hT X
  have hz : uF u = true → H.size = mX S := fun q => absurd (hf.symm.trans q) (by decide)
  have hA := C.2.2.2.2.2.2.2.2.2.1
  have hrun := vx_runS (Ts := []) (e := e) (below := below) (meth := meth) (H := H) (locs := locs) (cells := k) (slots := n) (g := F0 m pc ls (As.reverse ++ st)) (rest := st) ⟨C.1, C.2.1, C.2.2.2.1, C.2.2.2.2.1, fun w hw => nomatch hw⟩ (hc H.size) ⟨callB C hlk.1 hr, Cx_w C hlk.2 rfl⟩ ⟨cP_blind, pre_of C hW hS hr.2.2.2.2.1 hz As⟩ rfl hnp hl.1 rfl (lv_room hst) hd ⟨hr.2.2.1, hr.2.2.2.1⟩
  rcases hrun T hT X with ⟨v', st₀, t, T', L, h0, X', hL, e1, e2, hq, stp⟩ | ⟨q, st₀, t, T', L, E', ce, h0, X', hL, e1, e2, hx, hce, hcv, hcl, stp⟩
  · exact hq.elim
  · obtain ⟨rfl, hq, hF⟩ := hx
    obtain ⟨-, -, k3⟩ := vx_keep h0 e1 hS (fun q _ hq => free_in hW hS hA q hq) (free_in hW hS hA) hL hF
    have hok := after_call hr.2.2.2.2.1 hr.2.2.2.2.2 hz hW hS hA h0 hq
    rw [← e1] at hok
    have hout := vx_out (Qc := rQ g A (.inr E') S1 (uR u).cells (uF u)) (XC := rX g A (.inr E') S1 (uR u).cells (uF u)) (free := A) (ls := ls) (rest := st) (pc := pc) (e := e) (below := below) (args := args) (R := uR u) (l := l) (p := p) (locs := locs ++ L) (cells := k + (uR u2).cells) (slots := n + (uR u2).slots) (H := T'.heap) (m := m) (meth := meth) (c := c) (s := s) (mc := (uR u).cells) (ms := (uR u).slots)
      (fun x hx => by rw [C.2.2.2.2.2.2.2.2.2.2, hH] at hx; cases hx) C.2.2.2.2.2.1 (by rw [e1]; exact hce) hcv hcl (fun t2 ht2 _ => ⟨rfl, by rw [ht2]; exact ⟨hok.1, hok.2.1, hok.2.2.1, fun q => absurd (hf.symm.trans q) (by decide)⟩, k3.F ht2⟩) k3.2.2 hr.2.2.1 hr.2.2.2.1
    obtain ⟨t2, a1, b1⟩ := hout T' rfl X'
    exact ⟨t2, stp.trans a1, b1⟩
/-- what is thrown by the callee is caught here: the thing stands alone on the stack at the handler -/
theorem r_invV_c {idx np ci b : Nat} {As st0 : List Value} {E name : String} (hd : decode (uC u) pc = .ok (.invokevirtual idx, 3)) (hlk : LV (uY u).cls idx u2 np ci) (hr : RM u u2 k n) (hst : (st.map fun v => v.category).sum ≤ 8) (hnp : As.length = np) (h0 : st0 = As.reverse ++ .ref b :: st) (ho : ok S b ci)
    (pre : List (Nat × Nat × Nat × Nat)) (x : Nat × Nat × Nat × Nat) (suf : List (Nat × Nat × Nat × Nat)) (hH : uH u = pre ++ x :: suf) (hp : ∀ z ∈ pre, z.2.2.2 ≠ 0 ∧ ∃ nm, Cond.classLink (uY u).cls z.2.2.2 nm ∈ lw_tbl ∧ (E, nm) ∈ ncT) (hcov : covers ⟨x.1, x.2.1, x.2.2.1, x.2.2.2⟩ pc = true) (hx0 : x.2.2.2 ≠ 0) (hcl0 : Cond.classLink (uY u).cls x.2.2.2 name ∈ lw_tbl) (hcast : Cond.castable E name ∈ lw_tbl)
    (hf : uF u = false) (hc : Call g l u2 (.ref b :: As) S (.inr E) S1) (h : ∀ q : Nat, Run g l u Q x.2.2.1 lv [.ref q] (k + (uR u2).cells) (n + (uR u2).slots) S1) : Run g l u Q pc lv st0 k n S := by
  subst h0
  intro p e s m args below meth c A H locs ls C hW hS hl T hT X
  have hz : uF u = true → H.size = mX S := fun q => absurd (hf.symm.trans q) (by decide)
  have hA := C.2.2.2.2.2.2.2.2.2.1
  have hrun := vx_runV (Ts := []) (e := e) (below := below) (meth := meth) (H := H) (locs := locs) (cells := k) (slots := n) (g := F0 m pc ls (As.reverse ++ .ref b :: st)) (rest := st) ⟨C.1, C.2.1, C.2.2.2.1, C.2.2.2.2.1, fun w hw => nomatch hw⟩ (hc H.size) ⟨callB C hlk.1 hr, Cx_w C hlk.2.1 rfl, Cx_w C hlk.2.2.1 rfl⟩ ⟨cP_blind, rcv_of C hW hlk ho, pre_of C hW hS hr.2.2.2.2.1 hz (.ref b :: As)⟩ rfl hnp hl.1 rfl (lv_room hst) hd ⟨hr.2.2.1, hr.2.2.2.1⟩
  rcases hrun T hT X with ⟨v', st₀, t, T', L, h0, X', hL, e1, e2, hq, stp⟩ | ⟨q, st₀, t, T', L, E', ce, h0, X', hL, e1, e2, hx, hce, hcv, hcl, stp⟩
  · exact hq.elim
  · obtain ⟨rfl, hq, hF⟩ := hx
    obtain ⟨-, -, k3⟩ := vx_keep h0 e1 hS (fun q _ hq => free_in hW hS hA q hq) (free_in hW hS hA) hL hF
    have hok := after_call hr.2.2.2.2.1 hr.2.2.2.2.2 hz hW hS hA h0 hq
    rw [← e1] at hok
    have htab : c.exceptionTable.toList = tableOf pre ++ (⟨x.1, x.2.1, x.2.2.1, x.2.2.2⟩ : ExceptionTableEntry) :: tableOf suf := by
      rw [C.2.2.2.2.2.2.2.2.2.2, hH]
      simp [tableOf]
    have hcat := vx_catch (own := (uY u).cls) (name := name) (E := E') (ce := ce) (q := q) (ls := ls) (rest := st) (pc := pc) (e := e) (below := below) (args := args) (R := uR u) (l := l) (p := p) (locs := locs ++ L) (cells := k + (uR u2).cells) (slots := n + (uR u2).slots) (H := T'.heap) (m := m) (meth := meth) (c := c) (s := s) (Q := Q args below s A) C.2.2.2.2.1 (tableOf pre) ⟨x.1, x.2.1, x.2.2.1, x.2.2.2⟩ (tableOf suf) htab
      (fun z hz => by
        obtain ⟨z0, hz0, rfl⟩ := List.mem_map.mp hz
        obtain ⟨g1, nm, g2, g3⟩ := hp z0 hz0
        exact Or.inr ⟨g1, nm, Cx_w C g2 rfl, C.2.2.2.2.2.2.2.2.1.2.2.2.2.2.2.2 _ g3⟩) hcov hx0 (Cx_w C hcl0 rfl) (Cx_w C hcast rfl) (by rw [e1]; exact hce) hcv hcl
      (h q p e s m args below meth c A T'.heap (locs ++ L) ls C hok k3 hl)
    obtain ⟨t2, a1, b1⟩ := hcat T' rfl X'
    exact ⟨t2, stp.trans a1, b1⟩
-- tables that nobody writes
theorem r_letters {idx : Nat} (hd : decode (uC u) pc = .ok (.getstatic idx, 3)) {host : String} (hm : Cond.fieldLinkNest (uY u).cls idx RX5 "LETTERS" "[I" host ∈ lw_tbl) (h : Run g l u Q (pc + 3) lv (.ref g.2.2.1 :: st) k n S) : Run g l u Q pc lv st k n S :=
  fun p e s m args below meth c A H locs ls C hW hS hl => va_getsN C.1 C.2.1 C.2.2.2.2.2.2.2.2.1.2.2.2.2.1.1 hS C.2.2.2.2.1 (Cx_w C hm rfl) (fun _ h => h) hd (h p e s m args below meth c A H locs ls C hW hS hl)
theorem r_lettersN {idx : Nat} {v : Int32} {i : Int32} (hd : decode (uC u) pc = .ok (.iaload, 1)) (hi : vp_in i 4) (hv : letT i.toNatClampNeg = v) (h : Run g l u Q (pc + 1) lv (.int v :: st) k n S) : Run g l u Q pc lv (.int i :: .ref g.2.2.1 :: st) k n S :=
  fun p e s m args below meth c A H locs ls C hW hS hl => va_ti (v := .int v) C.1 C.2.1 C.2.2.2.2.2.2.2.2.1.2.2.2.2.1.2 hS hi (by show Value.int (letT i.toNatClampNeg) = .int v; rw [hv]) hd (h p e s m args below meth c A H locs ls C hW hS hl)
theorem r_lettersL (hd : decode (uC u) pc = .ok (.arraylength, 1)) (h : Run g l u Q (pc + 1) lv (.int 4 :: st) k n S) : Run g l u Q pc lv (.ref g.2.2.1 :: st) k n S :=
  fun p e s m args below meth c A H locs ls C hW hS hl => va_tlen C.1 C.2.1 C.2.2.2.2.2.2.2.2.1.2.2.2.2.1.2 hS rfl hd (h p e s m args below meth c A H locs ls C hW hS hl)
theorem r_scriptN {i : Int32} (hd : decode (uC u) pc = .ok (.iaload, 1)) (hi : vp_in i g.2.2.2.2.1) (h : Run g l u Q (pc + 1) lv (.int (g.2.2.2.2.2 i.toNatClampNeg) :: st) k n S) : Run g l u Q pc lv (.int i :: .ref g.2.2.2.1 :: st) k n S :=
  fun p e s m args below meth c A H locs ls C hW hS hl => va_ti (v := .int (g.2.2.2.2.2 i.toNatClampNeg)) C.1 C.2.1 C.2.2.2.2.2.2.2.2.1.2.2.2.2.2.1 hS hi rfl hd (h p e s m args below meth c A H locs ls C hW hS hl)
theorem r_scriptL (hd : decode (uC u) pc = .ok (.arraylength, 1)) (h : Run g l u Q (pc + 1) lv (.int (Int32.ofNat g.2.2.2.2.1) :: st) k n S) : Run g l u Q pc lv (.ref g.2.2.2.1 :: st) k n S :=
  fun p e s m args below meth c A H locs ls C hW hS hl => va_tlen C.1 C.2.1 C.2.2.2.2.2.2.2.2.1.2.2.2.2.2.1 hS rfl hd (h p e s m args below meth c A H locs ls C hW hS hl)
-- Math
theorem r_max {idx : Nat} {x y : Int32} (hd : decode (uC u) pc = .ok (.invokestatic idx, 3)) (h1 : Cond.methodLink (uY u).cls idx Lib.Math.max.name ∈ lw_tbl) (h2 : Cond.static Lib.Math.max.name ∈ lw_tbl ∧ Cond.initialized "java/lang/Math" ∈ lw_tbl ∧ Cond.code Lib.Math.max.name Lib.Math.max.code 2 (some .int) ∈ lw_tbl) (hf : 1 ≤ (uR u).frames) (hlo : (st.map fun v => v.category).sum + 13 ≤ (uR u).locals) (hc : k ≤ (uR u).cells) (hs : n ≤ (uR u).slots)
    (h : Run g l u Q (pc + 3) lv (.int (if x < y then y else x) :: st) k n S) : Run g l u Q pc lv (.int y :: .int x :: st) k n S :=
  fun p e s m args below meth c A H locs ls C hW hS hl => va_mmax C.1 C.2.1 (by rw [hl.1]; exact C.2.2.2.1) C.2.2.2.2.1 (Cx_w C h1 rfl) (Cx_w C h2.1 rfl) (Cx_w C h2.2.1 rfl) (Cx_w C h2.2.2 rfl) hf hlo hc hs hd (h p e s m args below meth c A H locs ls C hW hS hl)
theorem r_min {idx : Nat} {x y : Int32} (hd : decode (uC u) pc = .ok (.invokestatic idx, 3)) (h1 : Cond.methodLink (uY u).cls idx Lib.Math.min.name ∈ lw_tbl) (h2 : Cond.static Lib.Math.min.name ∈ lw_tbl ∧ Cond.initialized "java/lang/Math" ∈ lw_tbl ∧ Cond.code Lib.Math.min.name Lib.Math.min.code 2 (some .int) ∈ lw_tbl) (hf : 1 ≤ (uR u).frames) (hlo : (st.map fun v => v.category).sum + 13 ≤ (uR u).locals) (hc : k ≤ (uR u).cells) (hs : n ≤ (uR u).slots)
    (h : Run g l u Q (pc + 3) lv (.int (if y < x then y else x) :: st) k n S) : Run g l u Q pc lv (.int y :: .int x :: st) k n S :=
  fun p e s m args below meth c A H locs ls C hW hS hl => va_mmin C.1 C.2.1 (by rw [hl.1]; exact C.2.2.2.1) C.2.2.2.2.1 (Cx_w C h1 rfl) (Cx_w C h2.1 rfl) (Cx_w C h2.2.1 rfl) (Cx_w C h2.2.2 rfl) hf hlo hc hs hd (h p e s m args below meth c A H locs ls C hW hS hl)
theorem w_max : Cond.static Lib.Math.max.name ∈ lw_tbl ∧ Cond.initialized "java/lang/Math" ∈ lw_tbl ∧ Cond.code Lib.Math.max.name Lib.Math.max.code 2 (some .int) ∈ lw_tbl := by decide +kernel
theorem w_min : Cond.static Lib.Math.min.name ∈ lw_tbl ∧ Cond.initialized "java/lang/Math" ∈ lw_tbl ∧ Cond.code Lib.Math.min.name Lib.Math.min.code 2 (some .int) ∈ lw_tbl := by decide +kernel
-- arraycopy of ints
theorem w_copy : Cond.native arraycopyName ∈ lw_tbl ∧ Cond.static arraycopyName ∈ lw_tbl ∧ Cond.initialized "java/lang/System" ∈ lw_tbl := by decide +kernel
theorem cell_F {a : Nat} (hK : mK S a = 7) (f : Nat → Int32) (b : Nat) : va_up (mCell g S) a (.inl (g.2.1 7, mN S a, .inl f)) b = mCell g (sF S a f) b := by
  by_cases hb : b = a
  · subst hb
    rw [va_up_self, mCell_7 (S := sF S b f) hK]
    show _ = Sum.inl (g.2.1 7, mN S b, Sum.inl (va_up (mI S) b f b))
    rw [va_up_self]
  · rw [va_up_ne _ _ hb]
    exact (mCell_eq (S := S) (S' := sF S a f) rfl rfl (va_up_ne _ _ hb) rfl rfl rfl).symm
theorem r_copy {idx a b : Nat} {sp dp cn : Int32} (hd : decode (uC u) pc = .ok (.invokestatic idx, 3)) (h1 : Cond.methodLink (uY u).cls idx arraycopyName ∈ lw_tbl) (hf : 1 ≤ (uR u).frames) (hlo : (st.map fun v => v.category).sum + (nativeFrameWords "java/lang/System" "arraycopy" 5 + 11) ≤ (uR u).locals)
    (ho : ok S a 7) (ho2 : ok S b 7) (p1 : ¬ sp < 0) (p2 : ¬ dp < 0) (p3 : ¬ cn < 0) (p4 : sp.toNatClampNeg + cn.toNatClampNeg ≤ mN S a) (p5 : dp.toNatClampNeg + cn.toNatClampNeg ≤ mN S b)
    (h : Run g l u Q (pc + 3) lv st k n (sF S b (va_cpy (mI S a) (mI S b) sp.toNatClampNeg dp.toNatClampNeg cn.toNatClampNeg))) : Run g l u Q pc lv (.int cn :: .int dp :: .ref b :: .int sp :: .ref a :: st) k n S := by
  intro p e s m args below meth c A H locs ls C hW hS hl
  obtain ⟨q0, hq0⟩ := mW_get g ho.1
  obtain ⟨q1, hq1⟩ := mW_get g ho2.1
  have hq1' := hq1
  rw [mCell_7 ho.2] at hq0
  rw [mCell_7 ho2.2] at hq1'
  exact va_copyi (ty := .int) C.1 C.2.1 (by rw [hl.1]; exact C.2.2.2.1) C.2.2.2.2.1 (Cx_w C h1 rfl) (Cx_w C w_copy.1 rfl) (Cx_w C w_copy.2.1 rfl) (Cx_w C w_copy.2.2 rfl) C.2.2.2.2.2.2.2.2.1.2.2.1 hW.1 hW.2.1 hS q0 q1 0 0 hq0 hq1' rfl rfl rfl p1 p2 p3 p4 p5 (fun _ _ => rfl) hf hlo hd
    (fun H1 locs1 hP1 hD1 hS1 => h p e s m args below meth c A H1 locs1 ls C (okW_set hW ho2.1 hq1 rfl rfl (cell_F ho2.2 _) hP1 hD1) hS1 hl)
-- Object()
theorem r_objInit {idx a : Nat} (hd : decode (uC u) pc = .ok (.invokespecial idx, 3)) (h1 : Cond.methodLink (uY u).cls idx objectInit ∈ lw_tbl) (h2 : Cond.instanceMethod objectInit ∈ lw_tbl ∧ Cond.code objectInit ⟨#[0xb1]⟩ 1 none ∈ lw_tbl) (hf : 1 ≤ (uR u).frames) (hlo : (st.map fun v => v.category).sum + 12 ≤ (uR u).locals)
    (h : Run g l u Q (pc + 3) lv st k n S) : Run g l u Q pc lv (.ref a :: st) k n S :=
  fun p e s m args below meth c A H locs ls C hW hS hl => W.objInit (a := a) (rest := st) C.1 C.2.1 C.2.2.2.2.1 (Cx_w C h1 rfl) (Cx_w C h2.1 rfl) (Cx_w C h2.2 rfl) rfl (by show ls.size = _; rw [hl.1]; exact C.2.2.2.1.symm) rfl hd hf (by show 2 * 0 + _ + 12 ≤ _; omega) (h p e s m args below meth c A H locs ls C hW hS hl)
theorem w_obj : Cond.instanceMethod objectInit ∈ lw_tbl ∧ Cond.code objectInit ⟨#[0xb1]⟩ 1 none ∈ lw_tbl := by decide +kernel
end RX
