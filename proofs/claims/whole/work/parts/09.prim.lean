/-! What an instruction gives as a function of the memory (none: the machine itself would throw, or the kind is another), and its rule. -/
def cvI (r : Int32) : Option Value ⊕ String := .inl (some (.int r))
def cvV : Option Value ⊕ String := .inl none
def cvR (r : Nat) : Option Value ⊕ String := .inl (some (.ref r))
def cvF (r : UInt32) : Option Value ⊕ String := .inl (some (.float r))
def cxI (r : Int32 ⊕ String) : Option Value ⊕ String := match r with
  | .inl x => .inl (some (.int x))
  | .inr e => .inr e
def cxF (r : UInt32 ⊕ String) : Option Value ⊕ String := match r with
  | .inl x => .inl (some (.float x))
  | .inr e => .inr e
def cxV (r : Unit ⊕ String) : Option Value ⊕ String := match r with
  | .inl _ => .inl none
  | .inr e => .inr e
def pk (c : Nat) (S : Mem) (a : Nat) : Option Unit := if a ∈ mL S ∧ mK S a = c then some () else none
def pgI (c j : Nat) (S : Mem) (a : Nat) : Option Int32 := if a ∈ mL S ∧ mK S a = c then some (mI S a j) else none
def pgR (c j : Nat) (S : Mem) (a : Nat) : Option Nat := if a ∈ mL S ∧ mK S a = c then mR S a j else none
def ppI (c j : Nat) (S : Mem) (a : Nat) (x : Int32) : Option Mem := if a ∈ mL S ∧ mK S a = c then some (sI S a j x) else none
def ppZ (c j : Nat) (S : Mem) (a : Nat) (x : Int32) : Option Mem := if (a ∈ mL S ∧ mK S a = c) ∧ (x = 0 ∨ x = 1) then some (sI S a j x) else none
def ppF (c j : Nat) (S : Mem) (a b : Nat) : Option Mem := if a ∈ mL S ∧ mK S a = c then some (sR S a j (some b)) else none
def paI (S : Mem) (a : Nat) (i : Int32) : Option Int32 := if (a ∈ mL S ∧ mK S a = 7) ∧ ¬ (i < 0 ∨ mN S a ≤ i.toNatClampNeg) then some (mI S a i.toNatClampNeg) else none
def paZ (S : Mem) (a : Nat) (i : Int32) : Option Int32 := if (a ∈ mL S ∧ mK S a = 8) ∧ ¬ (i < 0 ∨ mN S a ≤ i.toNatClampNeg) then some (mI S a i.toNatClampNeg) else none
def paR (S : Mem) (a : Nat) (i : Int32) : Option Nat := if (a ∈ mL S ∧ mK S a = 9) ∧ ¬ (i < 0 ∨ mN S a ≤ i.toNatClampNeg) then mR S a i.toNatClampNeg else none
def paJ (S : Mem) (a : Nat) (i : Int32) : Option Int64 := if (a ∈ mL S ∧ mK S a = 10) ∧ ¬ (i < 0 ∨ mN S a ≤ i.toNatClampNeg) then some (mJ S a i.toNatClampNeg) else none
def paD (S : Mem) (a : Nat) (i : Int32) : Option UInt64 := if (a ∈ mL S ∧ mK S a = 11) ∧ ¬ (i < 0 ∨ mN S a ≤ i.toNatClampNeg) then some (mD S a i.toNatClampNeg) else none
def psI (S : Mem) (a : Nat) (i x : Int32) : Option Mem := if (a ∈ mL S ∧ mK S a = 7) ∧ ¬ (i < 0 ∨ mN S a ≤ i.toNatClampNeg) then some (sI S a i.toNatClampNeg x) else none
def psZ (S : Mem) (a : Nat) (i x : Int32) : Option Mem := if ((a ∈ mL S ∧ mK S a = 8) ∧ ¬ (i < 0 ∨ mN S a ≤ i.toNatClampNeg)) ∧ (x = 0 ∨ x = 1) then some (sI S a i.toNatClampNeg x) else none
def psR (S : Mem) (a : Nat) (i : Int32) (b : Nat) : Option Mem := if ((a ∈ mL S ∧ mK S a = 9) ∧ ¬ (i < 0 ∨ mN S a ≤ i.toNatClampNeg)) ∧ (b ∈ mL S ∧ mK S b = 4) then some (sR S a i.toNatClampNeg (some b)) else none
def psJ (S : Mem) (a : Nat) (i : Int32) (x : Int64) : Option Mem := if (a ∈ mL S ∧ mK S a = 10) ∧ ¬ (i < 0 ∨ mN S a ≤ i.toNatClampNeg) then some (sJ S a i.toNatClampNeg x) else none
def psD (S : Mem) (a : Nat) (i : Int32) (x : UInt64) : Option Mem := if (a ∈ mL S ∧ mK S a = 11) ∧ ¬ (i < 0 ∨ mN S a ≤ i.toNatClampNeg) then some (sD S a i.toNatClampNeg x) else none
def ptL (i : Int32) : Option Int32 := if ¬ (i < 0 ∨ 4 ≤ i.toNatClampNeg) then some (letT i.toNatClampNeg) else none
def pdiv (x y : Int32) : Option Int32 := if y = 0 then none else some (x / y)
def prem (x y : Int32) : Option Int32 := if y = 0 then none else some (x - x / y * y)
def pfadd (x y : UInt32) : Option UInt32 := if FP.fadd x y &&& 0x7fffffff ≤ 0x7f800000 then some (FP.fadd x y) else none
def pfmul (x y : UInt32) : Option UInt32 := if FP.fmul x y &&& 0x7fffffff ≤ 0x7f800000 then some (FP.fmul x y) else none
def pfdiv (x y : UInt32) : Option UInt32 := if FP.fdiv x y &&& 0x7fffffff ≤ 0x7f800000 then some (FP.fdiv x y) else none
def pmax (x y : Int32) : Int32 := if x < y then y else x
def pmin (x y : Int32) : Int32 := if y < x then y else x
def pcp (S : Mem) (a : Nat) (sp : Int32) (b : Nat) (dp cn : Int32) : Option Mem :=
  if ((a ∈ mL S ∧ mK S a = 7) ∧ (b ∈ mL S ∧ mK S b = 7)) ∧ (¬ sp < 0 ∧ ¬ dp < 0 ∧ ¬ cn < 0) ∧ sp.toNatClampNeg + cn.toNatClampNeg ≤ mN S a ∧ dp.toNatClampNeg + cn.toNatClampNeg ≤ mN S b then some (sF S b (va_cpy (mI S a) (mI S b) sp.toNatClampNeg dp.toNatClampNeg cn.toNatClampNeg)) else none
/-- a boolean answer -/
def rtZ (x : Int32) (S : Mem) : Option (Int32 × Mem) := if x = 0 ∨ x = 1 then some (x, S) else none
theorem if_some {α : Type} {c : Prop} [Decidable c] {x y : α} (h : (if c then some x else none) = some y) : c ∧ x = y := by
  by_cases hc : c
  · rw [if_pos hc] at h; exact ⟨hc, Option.some.inj h⟩
  · rw [if_neg hc] at h; cases h
theorem if_opt {α : Type} {c : Prop} [Decidable c] {x : Option α} {y : α} (h : (if c then x else none) = some y) : c ∧ x = some y := by
  by_cases hc : c
  · rw [if_pos hc] at h; exact ⟨hc, h⟩
  · rw [if_neg hc] at h; cases h
theorem bd {α β : Type} {x : Option α} {f : α → Option β} {y : β} (h : x.bind f = some y) : ∃ z, x = some z ∧ f z = some y := Option.bind_eq_some_iff.mp h
def bd2 {α β γ : Type} (x : Option (α × β)) (f : α → β → Option γ) : Option γ := match x with
  | some p => f p.1 p.2
  | none => none
theorem bd2_s {α β γ : Type} {x : Option (α × β)} {f : α → β → Option γ} {y : γ} (h : bd2 x f = some y) : ∃ a b, x = some (a, b) ∧ f a b = some y := by
  cases x with
  | none => cases h
  | some p => exact ⟨p.1, p.2, rfl, h⟩
def bdx {α β : Type} (x : Option ((α ⊕ String) × Mem)) (f : α → Mem → Option ((β ⊕ String) × Mem)) : Option ((β ⊕ String) × Mem) := match x with
  | some (.inl a, S) => f a S
  | some (.inr e, S) => some (.inr e, S)
  | none => none
theorem bdx_s {α β : Type} {x : Option ((α ⊕ String) × Mem)} {f : α → Mem → Option ((β ⊕ String) × Mem)} {r : β ⊕ String} {S' : Mem} (h : bdx x f = some (r, S')) : (∃ a S1, x = some (.inl a, S1) ∧ f a S1 = some (r, S')) ∨ ∃ e, x = some (.inr e, S') ∧ r = .inr e := by
  match x, h with
  | some (.inl a, S), h => exact Or.inl ⟨a, S, rfl, h⟩
  | some (.inr e, S), h =>
    cases h
    exact Or.inr ⟨e, rfl, rfl⟩
/-- how often a loop may turn -/
def FU : Nat := 4000
theorem pk_ok {c : Nat} {S : Mem} {a : Nat} {z : Unit} (h : pk c S a = some z) : ok S a c := (if_some h).1
section RP
variable {g : GG} {l : Launch} {u u2 : MU} {Q : FQ} {pc : Nat} {lv : List (Nat × Value)} {st : List Value} {k n : Nat} {S S1 : Mem}
theorem q_getI {idx ci j a : Nat} {f : Bool} {t : FieldType} {x : Int32} (h0 : pgI ci j S a = some x) (hd : decode (uC u) pc = .ok (.getfield idx, 3)) (hf : FL (uY u).cls idx ci j f t) (hr : rfT ci j = false) (h : Run g l u Q (pc + 3) lv (.int x :: st) k n S) : Run g l u Q pc lv (.ref a :: st) k n S := by
  obtain ⟨h1, rfl⟩ := if_some h0
  exact r_getI hd hf hr h1 h
theorem q_getR {idx ci j a b : Nat} {f : Bool} {t : FieldType} (h0 : pgR ci j S a = some b) (hd : decode (uC u) pc = .ok (.getfield idx, 3)) (hf : FL (uY u).cls idx ci j f t) (hr : rfT ci j = true) (h : Run g l u Q (pc + 3) lv (.ref b :: st) k n S) : Run g l u Q pc lv (.ref a :: st) k n S := by
  obtain ⟨h1, h2⟩ := if_opt h0
  exact r_getR hd hf hr h1 h2 h
theorem q_putI {idx ci j a : Nat} {x : Int32} (h0 : ppI ci j S a x = some S1) (hd : decode (uC u) pc = .ok (.putfield idx, 3)) (hf : FL (uY u).cls idx ci j false .int) (hr : rfT ci j = false) (h : Run g l u Q (pc + 3) lv st k n S1) : Run g l u Q pc lv (.int x :: .ref a :: st) k n S := by
  obtain ⟨h1, rfl⟩ := if_some h0
  exact r_putI hd hf hr h1 h
theorem q_putZ {idx ci j a : Nat} {x : Int32} (h0 : ppZ ci j S a x = some S1) (hd : decode (uC u) pc = .ok (.putfield idx, 3)) (hf : FL (uY u).cls idx ci j false .boolean) (hr : rfT ci j = false) (h : Run g l u Q (pc + 3) lv st k n S1) : Run g l u Q pc lv (.int x :: .ref a :: st) k n S := by
  obtain ⟨⟨h1, h2⟩, rfl⟩ := if_some h0
  exact r_putZ hd hf hr h2 h1 h
theorem q_putF {idx ci j a b : Nat} {t : FieldType} (h0 : ppF ci j S a b = some S1) (hd : decode (uC u) pc = .ok (.putfield idx, 3)) (hf : FF (uY u).cls idx ci j t) (hi : (uY u).name = "<init>") (hr : rfT ci j = true) (hn : narrow t (.ref b) = .ref b) (hfit : fits t (.ref b) = true) (h : Run g l u Q (pc + 3) lv st k n S1) : Run g l u Q pc lv (.ref b :: .ref a :: st) k n S := by
  obtain ⟨h1, rfl⟩ := if_some h0
  exact r_putF hd hf hi hr hn hfit h1 h
theorem q_iaload {a : Nat} {i x : Int32} (h0 : paI S a i = some x) (hd : decode (uC u) pc = .ok (.iaload, 1)) (h : Run g l u Q (pc + 1) lv (.int x :: st) k n S) : Run g l u Q pc lv (.int i :: .ref a :: st) k n S := by
  obtain ⟨⟨h1, h2⟩, rfl⟩ := if_some h0
  exact r_iaload hd h1 h2 h
theorem q_baload {a : Nat} {i x : Int32} (h0 : paZ S a i = some x) (hd : decode (uC u) pc = .ok (.baload, 1)) (h : Run g l u Q (pc + 1) lv (.int x :: st) k n S) : Run g l u Q pc lv (.int i :: .ref a :: st) k n S := by
  obtain ⟨⟨h1, h2⟩, rfl⟩ := if_some h0
  exact r_baload hd h1 h2 h
theorem q_aaload {a b : Nat} {i : Int32} (h0 : paR S a i = some b) (hd : decode (uC u) pc = .ok (.aaload, 1)) (h : Run g l u Q (pc + 1) lv (.ref b :: st) k n S) : Run g l u Q pc lv (.int i :: .ref a :: st) k n S := by
  obtain ⟨⟨h1, h2⟩, h3⟩ := if_opt h0
  exact r_aaload hd h1 h2 h3 h
theorem q_laload {a : Nat} {i : Int32} {x : Int64} (h0 : paJ S a i = some x) (hd : decode (uC u) pc = .ok (.laload, 1)) (h : Run g l u Q (pc + 1) lv (.long x :: st) k n S) : Run g l u Q pc lv (.int i :: .ref a :: st) k n S := by
  obtain ⟨⟨h1, h2⟩, rfl⟩ := if_some h0
  exact r_laload hd h1 h2 h
theorem q_daload {a : Nat} {i : Int32} {x : UInt64} (h0 : paD S a i = some x) (hd : decode (uC u) pc = .ok (.daload, 1)) (h : Run g l u Q (pc + 1) lv (.double x :: st) k n S) : Run g l u Q pc lv (.int i :: .ref a :: st) k n S := by
  obtain ⟨⟨h1, h2⟩, rfl⟩ := if_some h0
  exact r_daload hd h1 h2 h
theorem q_iastore {a : Nat} {i x : Int32} (h0 : psI S a i x = some S1) (hd : decode (uC u) pc = .ok (.iastore, 1)) (h : Run g l u Q (pc + 1) lv st k n S1) : Run g l u Q pc lv (.int x :: .int i :: .ref a :: st) k n S := by
  obtain ⟨⟨h1, h2⟩, rfl⟩ := if_some h0
  exact r_iastore hd h1 h2 h
theorem q_bastore {a : Nat} {i x : Int32} (h0 : psZ S a i x = some S1) (hd : decode (uC u) pc = .ok (.bastore, 1)) (h : Run g l u Q (pc + 1) lv st k n S1) : Run g l u Q pc lv (.int x :: .int i :: .ref a :: st) k n S := by
  obtain ⟨⟨⟨h1, h2⟩, h3⟩, rfl⟩ := if_some h0
  exact r_bastore hd h1 h2 h3 h
theorem q_aastore {a b : Nat} {i : Int32} (h0 : psR S a i b = some S1) (hd : decode (uC u) pc = .ok (.aastore, 1)) (h : Run g l u Q (pc + 1) lv st k n S1) : Run g l u Q pc lv (.ref b :: .int i :: .ref a :: st) k n S := by
  obtain ⟨⟨⟨h1, h2⟩, h3⟩, rfl⟩ := if_some h0
  exact r_aastore hd h1 h3 h2 h
theorem q_lastore {a : Nat} {i : Int32} {x : Int64} (h0 : psJ S a i x = some S1) (hd : decode (uC u) pc = .ok (.lastore, 1)) (h : Run g l u Q (pc + 1) lv st k n S1) : Run g l u Q pc lv (.long x :: .int i :: .ref a :: st) k n S := by
  obtain ⟨⟨h1, h2⟩, rfl⟩ := if_some h0
  exact r_lastore hd h1 h2 h
theorem q_dastore {a : Nat} {i : Int32} {x : UInt64} (h0 : psD S a i x = some S1) (hd : decode (uC u) pc = .ok (.dastore, 1)) (h : Run g l u Q (pc + 1) lv st k n S1) : Run g l u Q pc lv (.double x :: .int i :: .ref a :: st) k n S := by
  obtain ⟨⟨h1, h2⟩, rfl⟩ := if_some h0
  exact r_dastore hd h1 h2 h
theorem q_letters {i x : Int32} (h0 : ptL i = some x) (hd : decode (uC u) pc = .ok (.iaload, 1)) (h : Run g l u Q (pc + 1) lv (.int x :: st) k n S) : Run g l u Q pc lv (.int i :: .ref g.2.2.1 :: st) k n S := by
  obtain ⟨h1, h2⟩ := if_some h0
  exact r_lettersN (idx := 0) hd h1 h2 h
theorem q_idiv {x y z : Int32} (h0 : pdiv x y = some z) (hd : decode (uC u) pc = .ok (.idiv, 1)) (h : Run g l u Q (pc + 1) lv (.int z :: st) k n S) : Run g l u Q pc lv (.int y :: .int x :: st) k n S := by
  unfold pdiv at h0
  by_cases hy : y = 0
  · rw [if_pos hy] at h0; cases h0
  · rw [if_neg hy] at h0
    cases h0
    exact r_idiv hd hy h
theorem q_irem {x y z : Int32} (h0 : prem x y = some z) (hd : decode (uC u) pc = .ok (.irem, 1)) (h : Run g l u Q (pc + 1) lv (.int z :: st) k n S) : Run g l u Q pc lv (.int y :: .int x :: st) k n S := by
  unfold prem at h0
  by_cases hy : y = 0
  · rw [if_pos hy] at h0; cases h0
  · rw [if_neg hy] at h0
    cases h0
    exact r_irem hd hy h
theorem q_fadd {x y z : UInt32} (h0 : pfadd x y = some z) (hd : decode (uC u) pc = .ok (.fadd, 1)) (h : Run g l u Q (pc + 1) lv (.float z :: st) k n S) : Run g l u Q pc lv (.float y :: .float x :: st) k n S := by
  obtain ⟨h1, rfl⟩ := if_some h0
  exact r_fadd hd h1 h
theorem q_fmul {x y z : UInt32} (h0 : pfmul x y = some z) (hd : decode (uC u) pc = .ok (.fmul, 1)) (h : Run g l u Q (pc + 1) lv (.float z :: st) k n S) : Run g l u Q pc lv (.float y :: .float x :: st) k n S := by
  obtain ⟨h1, rfl⟩ := if_some h0
  exact r_fmul hd h1 h
theorem q_fdiv {x y z : UInt32} (h0 : pfdiv x y = some z) (hd : decode (uC u) pc = .ok (.fdiv, 1)) (h : Run g l u Q (pc + 1) lv (.float z :: st) k n S) : Run g l u Q pc lv (.float y :: .float x :: st) k n S := by
  obtain ⟨h1, rfl⟩ := if_some h0
  exact r_fdiv hd h1 h
theorem q_copy {idx a b : Nat} {sp dp cn : Int32} (h0 : pcp S a sp b dp cn = some S1) (hd : decode (uC u) pc = .ok (.invokestatic idx, 3)) (h1 : Cond.methodLink (uY u).cls idx arraycopyName ∈ lw_tbl) (hf : 1 ≤ (uR u).frames) (hlo : (st.map fun v => v.category).sum + (nativeFrameWords "java/lang/System" "arraycopy" 5 + 11) ≤ (uR u).locals)
    (h : Run g l u Q (pc + 3) lv st k n S1) : Run g l u Q pc lv (.int cn :: .int dp :: .ref b :: .int sp :: .ref a :: st) k n S := by
  obtain ⟨⟨⟨p1, p2⟩, ⟨p3, p4, p5⟩, p6, p7⟩, rfl⟩ := if_some h0
  exact r_copy hd h1 hf hlo p1 p2 p3 p4 p5 p6 p7 h
end RP
