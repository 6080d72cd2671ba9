/-! The pure part: memory, views, layout. -/
def zI (S : Mem) (I : Nat → Nat → Int32) : Mem := (mL S, mK S, mN S, I, mR S, mJ S, mD S, mX S)
section ZB
variable {S S' S1 S2 : Mem} {a b k j n c lo hi N z : Nat} {x y i : Int32} {f : Nat → Int32} {I : Nat → Nat → Int32} {o : Option Nat}
theorem z_ext (h1 : mL S = mL S') (h2 : mK S = mK S') (h3 : mN S = mN S') (h4 : mI S = mI S') (h5 : mR S = mR S') (h6 : mJ S = mJ S') (h7 : mD S = mD S') (h8 : mX S = mX S') : S = S' := by
  obtain ⟨a1, a2, a3, a4, a5, a6, a7, a8⟩ := S
  obtain ⟨b1, b2, b3, b4, b5, b6, b7, b8⟩ := S'
  cases h1; cases h2; cases h3; cases h4; cases h5; cases h6; cases h7; cases h8
  rfl
theorem zI_I : mI (zI S I) = I := rfl
theorem zI_R : mR (zI S I) = mR S := rfl
theorem zI_self : zI S (mI S) = S := rfl
theorem zI_zI {I' : Nat → Nat → Int32} : zI (zI S I) I' = zI S I' := rfl
theorem sI_zI : sI S a k x = zI S (up2 (mI S) a k x) := rfl
theorem sF_zI : sF S a f = zI S (va_up (mI S) a f) := rfl
theorem mI_sI : mI (sI S a k x) b j = if b = a ∧ j = k then x else mI S b j := rfl
theorem mI_sI_r : mI (sI S a k x) b = if b = a then va_up (mI S a) k x else mI S b := by
  by_cases h : b = a
  · subst h; rw [if_pos rfl]; exact up2_at _ _ _ _
  · rw [if_neg h]; exact up2_row _ _ h
theorem mI_sF : mI (sF S a f) b = if b = a then f else mI S b := rfl
theorem mI_sR : mI (sR S a k o) = mI S := rfl
theorem mI_sJ {v : Int64} : mI (sJ S a k v) = mI S := rfl
theorem mI_sD {v : UInt64} : mI (sD S a k v) = mI S := rfl
theorem mR_sI : mR (sI S a k x) = mR S := rfl
theorem mR_sF : mR (sF S a f) = mR S := rfl
theorem mR_sJ {v : Int64} : mR (sJ S a k v) = mR S := rfl
theorem mR_sD {v : UInt64} : mR (sD S a k v) = mR S := rfl
theorem mR_sR : mR (sR S a k o) b j = if b = a ∧ j = k then o else mR S b j := rfl
/-- only int rows with an address in lo ≤ a < hi differ -/
def zFr (lo hi : Nat) (S S' : Mem) : Prop := S' = zI S (mI S') ∧ ∀ a, (a < lo ∨ hi ≤ a) → mI S' a = mI S a
theorem zFr_refl : zFr lo hi S S := ⟨rfl, fun _ _ => rfl⟩
theorem zFr_trans (h : zFr lo hi S S1) (h' : zFr lo hi S1 S2) : zFr lo hi S S2 :=
  ⟨by have e := h'.1; rw [h.1, zI_zI] at e; exact e, fun a ha => (h'.2 a ha).trans (h.2 a ha)⟩
theorem zFr_mono {lo' hi' : Nat} (h : zFr lo hi S S1) (h1 : lo' ≤ lo) (h2 : hi ≤ hi') : zFr lo' hi' S S1 :=
  ⟨h.1, fun a ha => h.2 a (by omega)⟩
theorem zFr_sI (h1 : lo ≤ a) (h2 : a < hi) : zFr lo hi S (sI S a k x) :=
  ⟨rfl, fun b hb => up2_row _ _ (by omega)⟩
theorem zFr_sF (h1 : lo ≤ a) (h2 : a < hi) : zFr lo hi S (sF S a f) :=
  ⟨rfl, fun b hb => by rw [mI_sF, if_neg (by omega)]⟩
theorem zFr_R (h : zFr lo hi S S') : mR S' = mR S := by rw [h.1]; rfl
theorem zFr_L (h : zFr lo hi S S') : mL S' = mL S := by rw [h.1]; rfl
theorem zFr_K (h : zFr lo hi S S') : mK S' = mK S := by rw [h.1]; rfl
theorem zFr_N (h : zFr lo hi S S') : mN S' = mN S := by rw [h.1]; rfl
theorem zFr_J (h : zFr lo hi S S') : mJ S' = mJ S := by rw [h.1]; rfl
theorem zFr_D (h : zFr lo hi S S') : mD S' = mD S := by rw [h.1]; rfl
theorem zFr_X (h : zFr lo hi S S') : mX S' = mX S := by rw [h.1]; rfl
/-! primitives on known things -/
theorem e_pk (h : ok S a c) : pk c S a = some () := if_pos h
theorem e_pgI (h : ok S a c) : pgI c j S a = some (mI S a j) := if_pos h
theorem e_pgR (h : ok S a c) (h2 : mR S a j = some b) : pgR c j S a = some b := (if_pos h).trans h2
theorem e_ppI (h : ok S a c) : ppI c j S a x = some (sI S a j x) := if_pos h
theorem e_ppZ (h : ok S a c) (hx : x = 0 ∨ x = 1) : ppZ c j S a x = some (sI S a j x) := if_pos ⟨h, hx⟩
theorem e_in (hn : mN S a = N) (hk : k < N) (hN : N < 2 ^ 31) : ¬ (nI k < 0 ∨ mN S a ≤ (nI k).toNatClampNeg) := by
  rw [hn]; exact nI_in hk hN
theorem e_paI (h : ok S a 7) (hn : mN S a = N) (hk : k < N) (hN : N < 2 ^ 31) : paI S a (nI k) = some (mI S a k) := by
  unfold paI
  rw [if_pos ⟨h, e_in hn hk hN⟩, nI_clamp (by omega)]
theorem e_paZ (h : ok S a 8) (hn : mN S a = N) (hk : k < N) (hN : N < 2 ^ 31) : paZ S a (nI k) = some (mI S a k) := by
  unfold paZ
  rw [if_pos ⟨h, e_in hn hk hN⟩, nI_clamp (by omega)]
theorem e_paR (h : ok S a 9) (hn : mN S a = N) (hk : k < N) (hN : N < 2 ^ 31) : paR S a (nI k) = mR S a k := by
  unfold paR
  rw [if_pos ⟨h, e_in hn hk hN⟩, nI_clamp (by omega)]
theorem e_psI (h : ok S a 7) (hn : mN S a = N) (hk : k < N) (hN : N < 2 ^ 31) : psI S a (nI k) x = some (sI S a k x) := by
  unfold psI
  rw [if_pos ⟨h, e_in hn hk hN⟩, nI_clamp (by omega)]
theorem e_psZ (h : ok S a 8) (hn : mN S a = N) (hk : k < N) (hN : N < 2 ^ 31) (hx : x = 0 ∨ x = 1) : psZ S a (nI k) x = some (sI S a k x) := by
  unfold psZ
  rw [if_pos ⟨⟨h, e_in hn hk hN⟩, hx⟩, nI_clamp (by omega)]
theorem e_psR (h : ok S a 9) (hn : mN S a = N) (hk : k < N) (hN : N < 2 ^ 31) (hb : ok S b 4) : psR S a (nI k) b = some (sR S a k (some b)) := by
  unfold psR
  rw [if_pos ⟨⟨h, e_in hn hk hN⟩, hb⟩, nI_clamp (by omega)]
theorem e_pcp {m sp dp cn : Nat} (h : ok S a 7) (hb : ok S b 7) (hn : mN S a = N) (hm : mN S b = m) (h1 : sp + cn ≤ N) (h2 : dp + cn ≤ m) (hN : N < 2 ^ 31) (hM : m < 2 ^ 31) : pcp S a (nI sp) b (nI dp) (nI cn) = some (sF S b (va_cpy (mI S a) (mI S b) sp dp cn)) := by
  unfold pcp
  rw [nI_clamp (by omega), nI_clamp (by omega), nI_clamp (by omega), if_pos ⟨⟨h, hb⟩, ⟨nI_pos (by omega), nI_pos (by omega), nI_pos (by omega)⟩, by omega, by omega⟩]
theorem bd2_some {α β γ : Type} (p : α) (q : β) (f : α → β → Option γ) : bd2 (some (p, q)) f = f p q := rfl
theorem bdx_inl {α β : Type} (p : α) (S : Mem) (f : α → Mem → Option ((β ⊕ String) × Mem)) : bdx (some (.inl p, S)) f = f p S := rfl
theorem bdx_inr {α β : Type} (p : String) (S : Mem) (f : α → Mem → Option ((β ⊕ String) × Mem)) : bdx (some (.inr p, S)) f = some (.inr p, S) := rfl
theorem bdc_inl {α γ : Type} (p : α) (S : Mem) (f : α → Mem → Option γ) (hd : String → Mem → Option γ) : bdc (some (.inl p, S)) f hd = f p S := rfl
theorem bdc_inr {α γ : Type} (p : String) (S : Mem) (f : α → Mem → Option γ) (hd : String → Mem → Option γ) : bdc (some (.inr p, S)) f hd = hd p S := rfl
theorem obd_some {α β : Type} (p : α) (f : α → Option β) : (some p).bind f = f p := rfl
end ZB
/-! the layout -/
def kV : List (Nat × Nat) := [(4, 0), (7, 4), (7, 4), (7, 4), (7, 4), (8, 2), (7, 20)]
def kL : List (Nat × Nat) := [(5, 0), (3, 0), (7, 160), (2, 0), (9, 24)] ++ (List.replicate 26 kV).flatten ++ [(1, 0)] ++ kV ++ kV ++ kV ++ [(7, 4), (0, 0), (7, 120), (0, 0), (7, 120), (6, 0), (7, 162), (7, 1230), (7, 130), (7, 130), (7, 8), (10, 1), (11, 1)]
def vO : List Nat := (List.range 26).map (fun i => 5 + 7 * i) ++ [188, 195, 202]
def rL : List (Nat × Nat × Nat) := [(0, 0, 1), (0, 1, 3), (0, 2, 173), (0, 4, 180), (0, 5, 187), (0, 6, 210), (0, 7, 212), (1, 0, 2), (3, 0, 4)] ++ (vO.map (fun o => (List.range 6).map (fun t => (o, 3 + t, o + 1 + t)))).flatten ++ [(187, 0, 188), (187, 1, 195), (187, 2, 202), (187, 3, 209), (210, 0, 211), (212, 0, 213), (214, 1, 215), (214, 5, 216), (214, 6, 217), (214, 8, 218), (214, 10, 219)]
def zSt (z : Nat) (S : Mem) : Prop := (∀ i, i < 222 → ok S (z + i) (kL.getD i (0, 0)).1 ∧ mN S (z + i) = (kL.getD i (0, 0)).2) ∧ ∀ e, e ∈ rL → mR S (z + e.1) e.2.1 = some (z + e.2.2)
/-- a Variant with its six rows behind it -/
def zVar (S : Mem) (v : Nat) : Prop := ok S v 4 ∧ (mR S v 3 = some (v + 1) ∧ mR S v 4 = some (v + 2) ∧ mR S v 5 = some (v + 3) ∧ mR S v 6 = some (v + 4) ∧ mR S v 7 = some (v + 5) ∧ mR S v 8 = some (v + 6)) ∧ (ok S (v + 1) 7 ∧ mN S (v + 1) = 4) ∧ (ok S (v + 2) 7 ∧ mN S (v + 2) = 4) ∧ (ok S (v + 3) 7 ∧ mN S (v + 3) = 4) ∧ (ok S (v + 4) 7 ∧ mN S (v + 4) = 4) ∧ (ok S (v + 5) 8 ∧ mN S (v + 5) = 2) ∧ (ok S (v + 6) 7 ∧ mN S (v + 6) = 20)
section ZL
variable {S S' S1 S2 : Mem} {a b k j n c lo hi N z v o : Nat} {x y i : Int32} {f : Nat → Int32} {I : Nat → Nat → Int32}
theorem zSt_sI : zSt z (sI S a k x) = zSt z S := propext ⟨fun h => h, fun h => h⟩
theorem zSt_sF : zSt z (sF S a f) = zSt z S := propext ⟨fun h => h, fun h => h⟩
theorem zSt_zI : zSt z (zI S I) = zSt z S := propext ⟨fun h => h, fun h => h⟩
theorem zSt_sJ {w : Int64} : zSt z (sJ S a k w) = zSt z S := propext ⟨fun h => h, fun h => h⟩
theorem zSt_sD {w : UInt64} : zSt z (sD S a k w) = zSt z S := propext ⟨fun h => h, fun h => h⟩
theorem zVar_sI : zVar (sI S a k x) v = zVar S v := propext ⟨fun h => h, fun h => h⟩
theorem zVar_sF : zVar (sF S a f) v = zVar S v := propext ⟨fun h => h, fun h => h⟩
theorem zVar_zI : zVar (zI S I) v = zVar S v := propext ⟨fun h => h, fun h => h⟩
theorem zSt_Fr (h : zFr lo hi S S') (hS : zSt z S) : zSt z S' := by rw [h.1]; exact hS
theorem zVar_Fr (h : zFr lo hi S S') (hS : zVar S v) : zVar S' v := by rw [h.1]; exact hS
theorem rL_4 : ∀ e ∈ rL, e.1 ≠ 4 := by decide +kernel
theorem zSt_sR {o : Option Nat} (h : zSt z S) : zSt z (sR S (z + 4) k o) :=
  ⟨h.1, fun e he => by rw [mR_sR, if_neg (fun q => rL_4 e he (by omega))]; exact h.2 e he⟩
theorem t_ok (h : zSt z S) (i c n : Nat) (hk : kL[i]? = some (c, n)) : ok S (z + i) c ∧ mN S (z + i) = n := by
  have hi : i < 222 := by
    have := (List.getElem?_eq_some_iff.mp hk).1
    have hl : kL.length = 222 := by decide +kernel
    omega
  have := h.1 i hi
  rw [List.getD_eq_getElem?_getD, hk] at this
  exact this
theorem t_rf (h : zSt z S) (i j t : Nat) (hk : (i, j, t) ∈ rL) : mR S (z + i) j = some (z + t) := h.2 (i, j, t) hk
theorem vO_K : ∀ o ∈ vO, ∀ t, t < 7 → kL[o + t]? = kV[t]? := by decide +kernel
theorem vO_R : ∀ o ∈ vO, ∀ t, t < 6 → (o, 3 + t, o + 1 + t) ∈ rL := by decide +kernel
theorem t_var (h : zSt z S) (ho : o ∈ vO) : zVar S (z + o) := by
  have K : ∀ t c n, t < 7 → kV[t]? = some (c, n) → ok S (z + o + t) c ∧ mN S (z + o + t) = n := fun t c n ht hk => by rw [Nat.add_assoc]; exact t_ok h (o + t) c n ((vO_K o ho t ht).trans hk)
  have R : ∀ t, t < 6 → mR S (z + o) (3 + t) = some (z + o + 1 + t) := fun t ht => by rw [Nat.add_assoc, Nat.add_assoc, ← Nat.add_assoc o]; exact (t_rf h o (3 + t) (o + 1 + t) (vO_R o ho t ht))
  exact ⟨(K 0 4 0 (by omega) rfl).1, ⟨R 0 (by omega), R 1 (by omega), R 2 (by omega), R 3 (by omega), R 4 (by omega), R 5 (by omega)⟩, K 1 7 4 (by omega) rfl, K 2 7 4 (by omega) rfl, K 3 7 4 (by omega) rfl, K 4 7 4 (by omega) rfl, K 5 8 2 (by omega) rfl, K 6 7 20 (by omega) rfl⟩
theorem vO_i : ∀ i, i < 26 → 5 + 7 * i ∈ vO := by decide +kernel
theorem t_vi {p : Nat} (h : zSt z S) (hp : p < 26) : zVar S (z + 5 + 7 * p) := by
  have := t_var h (vO_i p hp)
  rw [show z + (5 + 7 * p) = z + 5 + 7 * p by omega] at this
  exact this
end ZL
