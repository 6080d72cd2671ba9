/-! a float by a wide index; switches -/
section RW9
variable {g : GG} {l : Launch} {u u2 : MU} {Q : FQ} {pc : Nat} {lv : List (Nat × Value)} {st : List Value} {k n : Nat} {S S1 : Mem}
theorem r_ldcfw {index : Nat} {v : UInt32} (hd : decode (uC u) pc = .ok (.ldc_w index, 3)) (hm : Cond.constantFloat (uY u).cls index v ∈ lw_tbl) (h : Run g l u Q (pc + 3) lv (.float v :: st) k n S) : Run g l u Q pc lv st k n S := by
  intro p e s m args below meth c A H locs ls C hW hS hl T hT X
  obtain ⟨t, a, b⟩ := h p e s m args below meth c A H locs ls C hW hS hl T hT X
  refine ⟨t, ?_, b⟩
  obtain ⟨kc, cf, hk, hcf, hcp⟩ := Cond.constantFloat_spec C.2.2.2.2.1 (Cx_w C hm rfl)
  obtain ⟨k', hk', he⟩ := X.warmed.alike.2.2 _ _ hk
  have hd' : decode c.code pc = .ok (.ldc_w index, 3) := by rw [C.2.1]; exact hd
  jvm_step X.here [X.here.top, C.1, hd', ldc_w.wp_float (s := T) (f := F0 m pc ls st) X.here.top hk' (by rw [he]; exact hcf) hcp]
  exact a
theorem r_tsIn {dflt lo hi : Int} {offs : Array Int} {len tgt : Nat} {x : Int32} {j off : Int} (hd : decode (uC u) pc = .ok (.tableswitch dflt lo hi offs, len)) (h1 : lo ≤ j) (h2 : j ≤ hi) (hx : x.toInt = j) (ho : offs[(j - lo).toNat]? = some off) (ht : (pc : Int) + off = (tgt : Int))
    (h : Run g l u Q tgt lv st k n S) : Run g l u Q pc lv (.int x :: st) k n S :=
  fun p e s m args below meth c A H locs ls C hW hS hl => lv_tableIn C.1 C.2.1 hd (by omega) (by omega) (by rw [hx]; exact ho) ht (h p e s m args below meth c A H locs ls C hW hS hl)
theorem r_tsOut {dflt lo hi : Int} {offs : Array Int} {len tgt : Nat} {x : Int32} (hd : decode (uC u) pc = .ok (.tableswitch dflt lo hi offs, len)) (hx : x.toInt < lo ∨ hi < x.toInt) (ht : (pc : Int) + dflt = (tgt : Int))
    (h : Run g l u Q tgt lv st k n S) : Run g l u Q pc lv (.int x :: st) k n S :=
  fun p e s m args below meth c A H locs ls C hW hS hl => lv_tableOut C.1 C.2.1 hd hx ht (h p e s m args below meth c A H locs ls C hW hS hl)
end RW9
theorem ne_toInt {x y : Int32} (h : ¬ x = y) : x.toInt ≠ y.toInt := fun q => h (Int32.toInt_inj.mp q)
/-! for the law: what a callee throws, and its wrapper catches -/
def bdc {α γ : Type} (x : Option ((α ⊕ String) × Mem)) (f : α → Mem → Option γ) (hd : String → Mem → Option γ) : Option γ := match x with
  | some (.inl a, S) => f a S
  | some (.inr e, S) => hd e S
  | none => none
theorem bdc_s {α γ : Type} {x : Option ((α ⊕ String) × Mem)} {f : α → Mem → Option γ} {hd : String → Mem → Option γ} {y : γ} (h : bdc x f hd = some y) : (∃ a S1, x = some (.inl a, S1) ∧ f a S1 = some y) ∨ ∃ e S1, x = some (.inr e, S1) ∧ hd e S1 = some y := by
  match x, h with
  | some (.inl a, S), h => exact Or.inl ⟨a, S, rfl, h⟩
  | some (.inr e, S), h => exact Or.inr ⟨e, S, rfl, h⟩
def pf2d (x : UInt32) : Option UInt64 := if FP.f2d x &&& 0x7fffffffffffffff ≤ 0x7ff0000000000000 then some (FP.f2d x) else none
def ptX (g : GG) (i : Int32) : Option Int32 := if ¬ (i < 0 ∨ g.2.2.2.2.1 ≤ i.toNatClampNeg) then some (g.2.2.2.2.2 i.toNatClampNeg) else none
section RQ9
variable {g : GG} {l : Launch} {u u2 : MU} {Q : FQ} {pc : Nat} {lv : List (Nat × Value)} {st : List Value} {k n : Nat} {S S1 : Mem}
theorem q_f2d {x : UInt32} {z : UInt64} (h0 : pf2d x = some z) (hd : decode (uC u) pc = .ok (.f2d, 1)) (h : Run g l u Q (pc + 1) lv (.double z :: st) k n S) : Run g l u Q pc lv (.float x :: st) k n S := by
  obtain ⟨h1, rfl⟩ := if_some h0
  exact r_f2d hd h1 h
theorem q_script {i x : Int32} (h0 : ptX g i = some x) (hd : decode (uC u) pc = .ok (.iaload, 1)) (h : Run g l u Q (pc + 1) lv (.int x :: st) k n S) : Run g l u Q pc lv (.int i :: .ref g.2.2.2.1 :: st) k n S := by
  obtain ⟨h1, rfl⟩ := if_some h0
  exact r_scriptN hd h1 h
end RQ9
/-- a static call of a method with a table of handlers -/
def LT9 (own : String) (idx : Nat) (u2 : MU) (np : Nat) : Prop :=
  Cond.methodLink own idx (uY u2) ∈ lw_tbl ∧ Cond.initialized (uY u2).cls ∈ lw_tbl ∧ ((uY u2).cls ≠ "java/lang/invoke/MethodHandle" ∧ (uY u2).cls ≠ "java/lang/invoke/VarHandle") ∧ (parseMethodDescriptor (uY u2).desc).map (fun d => d.parameters.length) = some np ∧ Cond.codeWith (uY u2) (uC u2) (uN u2) (uT u2) (uH u2) ∈ lw_tbl ∧ Cond.static (uY u2) ∈ lw_tbl
section RQ10
variable {g : GG} {l : Launch} {u u2 : MU} {Q : FQ} {pc : Nat} {lv : List (Nat × Value)} {st : List Value} {k n : Nat} {S S1 : Mem}
theorem r_invT {idx np : Nat} {As st0 : List Value} {v : Option Value} (hd : decode (uC u) pc = .ok (.invokestatic idx, 3)) (hlk : LT9 (uY u).cls idx u2 np) (hr : RM u u2 k n) (hst : (st.map fun v => v.category).sum ≤ 8) (hnp : As.length = np) (h0 : st0 = As.reverse ++ st)
    (hc : CallT g l u2 As S (.inl v) S1) (h : Run g l u Q (pc + 3) lv (v.toList ++ st) (k + (uR u2).cells) (n + (uR u2).slots) S1) : Run g l u Q pc lv st0 k n S := by
  subst h0
  intro p e s m args below meth c A H locs ls C hW hS hl T hT X
  have hz : uF u = true → H.size = mX S := fun q => size_of X hT (by rw [← q]; exact hW) hS
  have hA := C.2.2.2.2.2.2.2.2.2.1
  obtain ⟨h1, h2, h3, h4, h5, h6⟩ := hlk
  have hrun := vx_runSX (hh := uH u2) (bytes := uC u2) (maxL := uN u2) (ret := uT u2) (Ts := []) (e := e) (below := below) (meth := meth) (H := H) (locs := locs) (cells := k) (slots := n) (g := F0 m pc ls (As.reverse ++ st)) (rest := st) (n := np) (index := idx) (own := (uY u).cls) ⟨C.1, C.2.1, C.2.2.2.1, C.2.2.2.2.1, fun w hw => nomatch hw⟩ (hc H.size)
    ⟨⟨rfl, rfl, hr.1, hr.2.1, fun w hw a' U hWm => by
        rw [List.mem_singleton.mp hw]
        exact gw_warm (w := Cond.codeWith (uY u2) (uC u2) (uN u2) (uT u2) (uH u2)) rfl hWm (C.2.2.2.2.2.2.2.2.1.1 _ h5 rfl) a', List.mem_cons_self⟩, Cx_w C h5 rfl, Cx_w C h2 rfl, h3, fun sig hs => by
        rw [hs] at h4
        exact (Option.some.inj h4).symm, Cx_w C h1 rfl, Cx_w C h6 rfl⟩ ⟨cP_blind, pre_of C hW hS hr.2.2.2.2.1 hz As⟩ rfl hnp hl.1 rfl (lv_room hst) hd ⟨hr.2.2.1, hr.2.2.2.1⟩
  rcases hrun T hT X with ⟨v', st₀, t, T', L, h0, X', hL, e1, e2, hq, stp⟩ | ⟨q, st₀, t, T', L, E, ce, h0, X', hL, e1, e2, hx, -⟩
  · obtain ⟨hv, hq, hF⟩ := hq
    cases hv
    obtain ⟨-, -, k3⟩ := vx_keep h0 e1 hS (fun q _ hq => free_in hW hS hA q hq) (free_in hW hS hA) hL hF
    have hok := after_call hr.2.2.2.2.1 hr.2.2.2.2.2 hz hW hS hA h0 hq
    rw [← e1] at hok
    obtain ⟨t2, a1, b1⟩ := h p e s m args below meth c A T'.heap (locs ++ L) ls C hok k3 hl T' rfl X'
    exact ⟨t2, stp t2 a1, b1⟩
  · exact hx.elim
end RQ10
