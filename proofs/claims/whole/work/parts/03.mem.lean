/-! The memory of a walk: which addresses are ours, the kind of each (0 to 6 an object of that class of vwCl, 7 int[], 8 boolean[], 9 Variant[], 10 long[], 11 double[]),
the lengths, what int and reference places hold (fields by their number, arrays by their index), longs, doubles, and the next address (0: not known). -/
abbrev Mem : Type := List Nat × (Nat → Nat) × (Nat → Nat) × (Nat → Nat → Int32) × (Nat → Nat → Option Nat) × (Nat → Nat → Int64) × (Nat → Nat → UInt64) × Nat
/-- what is fixed over a run: class numbers and slots, the array classes by kind, the address of LETTERS, the script's address, length and ints -/
abbrev GG : Type := va_G × (Nat → ClassId) × Nat × Nat × Nat × (Nat → Int32)
def mL (S : Mem) : List Nat := S.1
def mK (S : Mem) : Nat → Nat := S.2.1
def mN (S : Mem) : Nat → Nat := S.2.2.1
def mI (S : Mem) : Nat → Nat → Int32 := S.2.2.2.1
def mR (S : Mem) : Nat → Nat → Option Nat := S.2.2.2.2.1
def mJ (S : Mem) : Nat → Nat → Int64 := S.2.2.2.2.2.1
def mD (S : Mem) : Nat → Nat → UInt64 := S.2.2.2.2.2.2.1
def mX (S : Mem) : Nat := S.2.2.2.2.2.2.2
def up2 {α : Type} (f : Nat → Nat → α) (a k : Nat) (v : α) : Nat → Nat → α := fun b j => if b = a ∧ j = k then v else f b j
def sI (S : Mem) (a k : Nat) (v : Int32) : Mem := (mL S, mK S, mN S, up2 (mI S) a k v, mR S, mJ S, mD S, mX S)
def sR (S : Mem) (a k : Nat) (v : Option Nat) : Mem := (mL S, mK S, mN S, mI S, up2 (mR S) a k v, mJ S, mD S, mX S)
def sJ (S : Mem) (a k : Nat) (v : Int64) : Mem := (mL S, mK S, mN S, mI S, mR S, up2 (mJ S) a k v, mD S, mX S)
def sD (S : Mem) (a k : Nat) (v : UInt64) : Mem := (mL S, mK S, mN S, mI S, mR S, mJ S, up2 (mD S) a k v, mX S)
/-- a run of int places laid anew -/
def sF (S : Mem) (a : Nat) (f : Nat → Int32) : Mem := (mL S, mK S, mN S, va_up (mI S) a f, mR S, mJ S, mD S, mX S)
/-- the next address is forgotten -/
def sX (S : Mem) : Mem := (mL S, mK S, mN S, mI S, mR S, mJ S, mD S, 0)
/-- a new thing of kind c, of n places, at the next address -/
def nw (S : Mem) (c n : Nat) : Mem := (mL S ++ [mX S], va_up (mK S) (mX S) c, va_up (mN S) (mX S) n, va_up (mI S) (mX S) (fun _ => 0), va_up (mR S) (mX S) (fun _ => none), va_up (mJ S) (mX S) (fun _ => 0), va_up (mD S) (mX S) (fun _ => 0), mX S + 1)
/-- which fields of class c hold references -/
def rfT (c k : Nat) : Bool := ((([[true, false, false], [true, true, true, true], [true, false], [true, false], [false, false, false, true, true, true, true, true, true], [true, true, true, false, true, true, true, true], [false, true, false, false, false, true, true, false, true, false, true]] : List (List Bool)).getD c []).getD k false)
/-- how many fields class c has -/
def nfT (c : Nat) : Nat := ([3, 4, 2, 2, 9, 8, 11] : List Nat).getD c 0
def fvM (S : Mem) (a c k : Nat) : Value := if rfT c k = true then va_rf (mR S a k) else .int (mI S a k)
def fsM (S : Mem) (a c : Nat) : List Value := (List.range (nfT c)).map (fvM S a c)
def mCell (g : GG) (S : Mem) (a : Nat) : va_E :=
  if mK S a < 7 then .inr (mK S a, fsM S a (mK S a))
  else if mK S a = 7 then .inl (g.2.1 7, mN S a, .inl (mI S a))
  else if mK S a = 8 then .inl (g.2.1 8, mN S a, .inl (mI S a))
  else if mK S a = 9 then .inl (g.2.1 9, mN S a, .inr (.inr (.inr (.inr (mR S a)))))
  else if mK S a = 10 then .inl (g.2.1 10, mN S a, .inr (.inl (mJ S a)))
  else .inl (g.2.1 11, mN S a, .inr (.inr (.inr (.inl (mD S a)))))
def mW (g : GG) (S : Mem) : va_W := va_pl (mL S) (mCell g S)
def tysG (g : GG) : List (ClassId × FieldType) := [(g.2.1 7, .int), (g.2.1 8, .boolean), (g.2.1 9, .object RX4), (g.2.1 10, .long), (g.2.1 11, .double)]
/-- the thing at a is ours, and of kind c -/
def ok (S : Mem) (a c : Nat) : Prop := a ∈ mL S ∧ mK S a = c
/-- the next address: not known (0), or what the method has made (k cells since s) behind what was there -/
def xk (f : Bool) (s : State) (k : Nat) (S : Mem) : Prop := (f = false → mX S = 0) ∧ (f = true → mX S = s.heap.size + k ∧ (k = 0 ∨ mX S - 1 ∈ mL S))
/-- the world in the heap -/
def okW (g : GG) (A : Nat → Prop) (S : Mem) (H : Heap) (s : State) (k : Nat) (f : Bool) : Prop := va_P g.1 vwCl (mW g S) H ∧ va_D A (mW g S) ∧ xk f s k S

theorem mW_get (g : GG) {S : Mem} {a : Nat} (h : a ∈ mL S) : ∃ k : Nat, (mW g S)[k]? = some (a, mCell g S a) := by
  obtain ⟨k, hk⟩ := va_pl_get (X := []) (f := mCell g S) h
  exact ⟨k, hk⟩
theorem mW_set {g : GG} {A : Nat → Prop} {S S' : Mem} {a k : Nat} {e : va_E} (hD : va_D A (mW g S)) (h : a ∈ mL S) (hk : (mW g S)[k]? = some (a, mCell g S a)) (hL : mL S' = mL S) (hc : ∀ b, va_up (mCell g S) a e b = mCell g S' b) : (mW g S).set k (a, e) = mW g S' := by
  have h1 := va_pl_set (X := []) (f := mCell g S) (e := e) hD h hk
  unfold mW at h1 ⊢
  rw [List.nil_append, List.nil_append] at h1
  rw [h1, hL]
  exact va_pl_congr hc
theorem mCell_o {g : GG} {S : Mem} {a c : Nat} (h : mK S a = c) (hc : c < 7) : mCell g S a = .inr (c, fsM S a c) := by
  unfold mCell
  rw [if_pos (by rw [h]; exact hc), h]
theorem mCell_7 {g : GG} {S : Mem} {a : Nat} (h : mK S a = 7) : mCell g S a = .inl (g.2.1 7, mN S a, .inl (mI S a)) := by simp [mCell, h]
theorem mCell_8 {g : GG} {S : Mem} {a : Nat} (h : mK S a = 8) : mCell g S a = .inl (g.2.1 8, mN S a, .inl (mI S a)) := by simp [mCell, h]
theorem mCell_9 {g : GG} {S : Mem} {a : Nat} (h : mK S a = 9) : mCell g S a = .inl (g.2.1 9, mN S a, .inr (.inr (.inr (.inr (mR S a))))) := by simp [mCell, h]
theorem mCell_10 {g : GG} {S : Mem} {a : Nat} (h : mK S a = 10) : mCell g S a = .inl (g.2.1 10, mN S a, .inr (.inl (mJ S a))) := by simp [mCell, h]
theorem mCell_11 {g : GG} {S : Mem} {a : Nat} (h : mK S a = 11) : mCell g S a = .inl (g.2.1 11, mN S a, .inr (.inr (.inr (.inl (mD S a))))) := by simp [mCell, h]
theorem fsM_get {S : Mem} {a c k : Nat} (h : k < nfT c) : (fsM S a c)[k]? = some (fvM S a c k) := by
  simp [fsM, h]
theorem fsM_len (S : Mem) (a c : Nat) : (fsM S a c).length = nfT c := by simp [fsM]
theorem fsM_set {S S' : Mem} {a c k : Nat} {v : Value} (h0 : fvM S' a c k = v) (h1 : ∀ j, j ≠ k → fvM S' a c j = fvM S a c j) : (fsM S a c).set k v = fsM S' a c := by
  apply List.ext_getElem?
  intro j
  by_cases hj : j = k
  · subst hj
    by_cases hl : j < nfT c
    · rw [List.getElem?_set_self (by rw [fsM_len]; exact hl), fsM_get hl, h0]
    · rw [List.getElem?_eq_none (by rw [List.length_set, fsM_len]; omega), List.getElem?_eq_none (by rw [fsM_len]; omega)]
  · rw [List.getElem?_set_ne (Ne.symm hj)]
    by_cases hl : j < nfT c
    · rw [fsM_get hl, fsM_get hl, h1 j hj]
    · rw [List.getElem?_eq_none (by rw [fsM_len]; omega), List.getElem?_eq_none (by rw [fsM_len]; omega)]
/-- cells elsewhere -/
theorem mCell_eq {g : GG} {S S' : Mem} {b : Nat} (hK : mK S' b = mK S b) (hN : mN S' b = mN S b) (hI : mI S' b = mI S b) (hR : mR S' b = mR S b) (hJ : mJ S' b = mJ S b) (hD : mD S' b = mD S b) : mCell g S' b = mCell g S b := by
  have hf : ∀ c, fsM S' b c = fsM S b c := by
    intro c
    unfold fsM
    apply List.map_congr_left
    intro k _
    simp only [fvM, hI, hR]
  simp only [mCell, hK, hN, hI, hR, hJ, hD, hf]
theorem up2_self {α : Type} (f : Nat → Nat → α) (a k : Nat) (v : α) : up2 f a k v a k = v := by simp [up2]
theorem up2_row {α : Type} (f : Nat → Nat → α) {a b k : Nat} (v : α) (h : b ≠ a) : up2 f a k v b = f b := by
  funext j
  simp [up2, h]
theorem up2_at {α : Type} (f : Nat → Nat → α) (a k : Nat) (v : α) : up2 f a k v a = va_up (f a) k v := by
  funext j
  by_cases h : j = k <;> simp [up2, va_up, h]
theorem up2_ne {α : Type} (f : Nat → Nat → α) {a b k j : Nat} (v : α) (h : ¬ (b = a ∧ j = k)) : up2 f a k v b j = f b j := by simp [up2, h]
theorem upd_up (f : Nat → Int32) (k : Nat) (x : Int32) : upd f k x = va_up f k x := rfl
