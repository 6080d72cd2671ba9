/-! What a constructor makes: the next address is known. -/
theorem mW_nw {g : GG} {S : Mem} {c n : Nat} (h : mX S ∉ mL S) : mW g (nw S c n) = mW g S ++ [(mX S, mCell g (nw S c n) (mX S))] := by
  have h1 : mW g S ++ [(mX S, mCell g (nw S c n) (mX S))] = va_pl (mL S ++ [mX S]) (va_up (mCell g S) (mX S) (mCell g (nw S c n) (mX S))) := va_pl_push h
  rw [h1]
  refine va_pl_congr (fun b => ?_)
  by_cases hb : b = mX S
  · rw [hb, va_up_self]
  · rw [va_up_ne _ _ hb]
    exact mCell_eq (S := S) (S' := nw S c n) (va_up_ne _ _ hb) (va_up_ne _ _ hb) (va_up_ne _ _ hb) (va_up_ne _ _ hb) (va_up_ne _ _ hb) (va_up_ne _ _ hb)
/-- entry idx of own's pool is class ci, to be made -/
def NO (own : String) (idx ci : Nat) : Prop :=
  ∃ (D : String) (T : u_T) (N : Nat) (ty : Nat → FieldType), CF ci D T N ty ∧ Cond.classLink own idx D ∈ lw_tbl ∧ Cond.instantiable D N ∈ lw_tbl ∧ Cond.initialized D ∈ lw_tbl ∧ ∀ j, j < N → defaultValue (ty j) = if rfT ci j = true then .null else .int 0
section RN
variable {g : GG} {l : Launch} {u u2 : MU} {Q : FQ} {pc : Nat} {lv : List (Nat × Value)} {st : List Value} {k n : Nat} {S S1 : Mem}
theorem nw_ok {A : Nat → Prop} {H H1 : Heap} {s : State} {c N : Nat} {locs : List Loc} (hz : H.size = mX S) (hW : okW g A S H s k true) (hS : va_S A s.heap H locs) (hA : ∀ q, s.heap.size ≤ q → A q) (z1 : H1.size = mX S + 1) (o1 : ∀ q, q < mX S → H1[q]? = H[q]?) (he : va_at g.1 vwCl (mX S, mCell g (nw S c N) (mX S)) H1) :
    okW g A (nw S c N) H1 s (k + 1) true ∧ va_S A s.heap H1 locs := by
  have hni : mX S ∉ mL S := by
    intro hq
    obtain ⟨i, hi⟩ := mW_get g hq
    have := (hW.1 i _ hi).lt
    dsimp only at this
    omega
  have hk : ∀ (i : Nat) (x : Nat × va_E), (mW g S)[i]? = some x → H1[x.1]? = H[x.1]? := fun i x hx => o1 x.1 (by rw [← hz]; exact (hW.1 i x hx).lt)
  refine ⟨⟨?_, ?_, ?_, ?_⟩, ?_⟩
  · rw [mW_nw hni]
    refine (hW.1.kept hk).app (fun i x hx => ?_)
    have hi : i < 1 := (List.getElem?_eq_some_iff.mp hx).1
    rw [show i = 0 by omega] at hx
    cases hx
    exact he
  · rw [mW_nw hni]
    exact hW.2.1.push hW.1 hz.symm (hA _ (by rw [← hz]; exact hS.1))
  · intro q
    cases q
  · intro _
    have h1 := (hW.2.2.2 rfl).1
    refine ⟨?_, Or.inr ?_⟩
    · show mX S + 1 = _
      omega
    · show mX S + 1 - 1 ∈ mL S ++ [mX S]
      simp
  · refine ⟨?_, fun q h1 h2 => ?_, hS.2.2⟩
    · have := hS.1
      omega
    · have := hS.1
      rw [o1 q (by omega)]
      exact hS.2.1 q h1 h2
theorem r_new {idx ci : Nat} (hd : decode (uC u) pc = .ok (.new idx, 3)) (hn : NO (uY u).cls idx ci) (hf : uF u = true) (hc : k + 1 ≤ (uR u).cells) (hs : n + nfT ci ≤ (uR u).slots) (h : Run g l u Q (pc + 3) lv (.ref (mX S) :: st) (k + 1) (n + nfT ci) (nw S ci 0)) : Run g l u Q pc lv st k n S := by
  intro p e s m args below meth c A H locs ls C hW hS hl T hT X
  have hW' : okW g A S H s k true := by rw [← hf]; exact hW
  have hz := size_of X hT hW' hS
  obtain ⟨D, U, N, ty, ⟨c1, c2, c3, c4, c5, c6⟩, h1, h2, h3, h4⟩ := hn
  have hKn := C.2.2.2.2.2.2.2.2.1.2.2.1.1 ci _ c1
  rw [← c2] at hs h
  suffices hw : W p l e (uR u) s m args below meth c H locs k n (Q args below s A) (F0 m pc ls st) from hw T hT X
  refine W.newcK (h := mX S) (g := F0 m pc ls st) C.1 C.2.1 C.2.2.2.2.1 (Cx_w C h1 rfl) (Cx_w C h2 rfl) (Cx_w C h3 rfl) rfl hd hc hs hKn.2.1 hz (fun H1 kC hkC e1 z1 o1 => ?_)
  have hcell : mCell g (nw S ci 0) (mX S) = .inr (ci, fsM (nw S ci 0) (mX S) ci) := mCell_o (va_up_self _ _ _) c6
  have hnk := nw_ok (c := ci) (N := 0) hz hW' hS C.2.2.2.2.2.2.2.2.2.1 z1 o1 (by
    rw [hcell]
    refine ⟨_, c1, (u_born (ws := u_ws D U N) ty (fun w hw => Cx_w C (c3 w hw).1 (c3 w hw).2) (fun _ h => h) hKn hkC e1 c4).to (fun j hj => ?_)⟩
    rw [h4 j hj]
    have hj2 : j < nfT ci := by rw [← c2]; exact hj
    show _ = vp_V (fsM (nw S ci 0) (mX S) ci) j
    simp only [vp_V, List.getD_eq_getElem?_getD, fsM_get hj2, Option.getD_some, fvM]
    by_cases hr : rfT ci j = true
    · rw [if_pos hr, if_pos hr]
      show _ = va_rf (va_up (mR S) (mX S) (fun _ => none) (mX S) j)
      rw [va_up_self]
      rfl
    · rw [if_neg hr, if_neg hr]
      show _ = Value.int (va_up (mI S) (mX S) (fun _ => 0) (mX S) j)
      rw [va_up_self])
  exact h p e s m args below meth c A H1 locs ls C (by rw [hf]; exact hnk.1) hnk.2 hl
theorem r_newa {at9 : ArrayType} {ty : FieldType} {kd t0 N : Nat} {x : Int32} (hd : decode (uC u) pc = .ok (.newarray at9, 2)) (hty : newarray.typeOf at9 = ty) (hm : Cond.arrayClass ty ∈ lw_tbl) (hk : (tysG g)[t0]? = some (g.2.1 kd, ty)) (hra : ∀ (U : State) (q : ClassId), va_RA U q ty → U.vm.findClass ("[" ++ ty.toString) = some q)
    (hcell : ∀ (S : Mem) (cA : ClassId), cA = g.2.1 kd → va_at g.1 vwCl (mX S, mCell g (nw S kd N) (mX S)) = fun H => H[mX S]? = some (arrV cA N (fun _ => defaultValue ty))) (hx : ¬ x < 0) (hN : x.toNatClampNeg = N) (hb : N * componentBytes ty ≤ 536870912)
    (hf : uF u = true) (hc : k + 1 ≤ (uR u).cells) (hs : n + N ≤ (uR u).slots) (h : Run g l u Q (pc + 2) lv (.ref (mX S) :: st) (k + 1) (n + N) (nw S kd N)) : Run g l u Q pc lv (.int x :: st) k n S := by
  subst hty
  intro p e s m args below meth c A H locs ls C hW hS hl T hT X
  have hW' : okW g A S H s k true := by rw [← hf]; exact hW
  have hz := size_of X hT hW' hS
  suffices hw : W p l e (uR u) s m args below meth c H locs k n (Q args below s A) (F0 m pc ls (.int x :: st)) from hw T hT X
  refine va_newaK (h := mX S) (g := F0 m pc ls (.int x :: st)) (rest := st) C.1 C.2.1 (Cx_w C hm rfl) rfl hd rfl hx hN hb hc hs hz (fun H1 cA e1 z1 o1 hAr hNm => ?_)
  have hcA : cA = g.2.1 kd := by
    have h2 := hra s _ (C.2.2.2.2.2.2.2.2.1.2.2.1.2 t0 _ hk).2
    exact Option.some.inj (hNm.symm.trans h2)
  have hnk := nw_ok (c := kd) (N := N) hz hW' hS C.2.2.2.2.2.2.2.2.2.1 z1 o1 (by rw [hcell S cA hcA]; exact e1)
  exact h p e s m args below meth c A H1 locs ls C (by rw [hf]; exact hnk.1) hnk.2 hl
theorem cell_nw {S : Mem} {c N : Nat} : mK (nw S c N) (mX S) = c ∧ mN (nw S c N) (mX S) = N ∧ mI (nw S c N) (mX S) = (fun _ => 0) ∧ mR (nw S c N) (mX S) = (fun _ => none) ∧ mJ (nw S c N) (mX S) = (fun _ => 0) ∧ mD (nw S c N) (mX S) = (fun _ => 0) :=
  ⟨va_up_self _ _ _, va_up_self _ _ _, va_up_self _ _ _, va_up_self _ _ _, va_up_self _ _ _, va_up_self _ _ _⟩
theorem r_newI {N : Nat} {x : Int32} (hd : decode (uC u) pc = .ok (.newarray .int, 2)) (hx : ¬ x < 0) (hN : x.toNatClampNeg = N) (hb : N * 4 ≤ 536870912)
    (hf : uF u = true) (hc : k + 1 ≤ (uR u).cells) (hs : n + N ≤ (uR u).slots) (h : Run g l u Q (pc + 2) lv (.ref (mX S) :: st) (k + 1) (n + N) (nw S 7 N)) : Run g l u Q pc lv (.int x :: st) k n S :=
  r_newa (ty := .int) (kd := 7) (t0 := 0) hd rfl (by decide +kernel) rfl (fun _ _ h => h) (fun S cA hcA => by
    obtain ⟨h1, h2, h3, h4, h5, h6⟩ := cell_nw (S := S) (c := 7) (N := N)
    rw [mCell_7 h1, h2, h3, hcA]
    rfl) hx hN hb hf hc hs h
theorem r_newZ {N : Nat} {x : Int32} (hd : decode (uC u) pc = .ok (.newarray .boolean, 2)) (hx : ¬ x < 0) (hN : x.toNatClampNeg = N) (hb : N * 1 ≤ 536870912)
    (hf : uF u = true) (hc : k + 1 ≤ (uR u).cells) (hs : n + N ≤ (uR u).slots) (h : Run g l u Q (pc + 2) lv (.ref (mX S) :: st) (k + 1) (n + N) (nw S 8 N)) : Run g l u Q pc lv (.int x :: st) k n S :=
  r_newa (ty := .boolean) (kd := 8) (t0 := 1) hd rfl (by decide +kernel) rfl (fun _ _ h => h) (fun S cA hcA => by
    obtain ⟨h1, h2, h3, h4, h5, h6⟩ := cell_nw (S := S) (c := 8) (N := N)
    rw [mCell_8 h1, h2, h3, hcA]
    rfl) hx hN hb hf hc hs h
theorem r_newJ {N : Nat} {x : Int32} (hd : decode (uC u) pc = .ok (.newarray .long, 2)) (hx : ¬ x < 0) (hN : x.toNatClampNeg = N) (hb : N * 8 ≤ 536870912)
    (hf : uF u = true) (hc : k + 1 ≤ (uR u).cells) (hs : n + N ≤ (uR u).slots) (h : Run g l u Q (pc + 2) lv (.ref (mX S) :: st) (k + 1) (n + N) (nw S 10 N)) : Run g l u Q pc lv (.int x :: st) k n S :=
  r_newa (ty := .long) (kd := 10) (t0 := 3) hd rfl (by decide +kernel) rfl (fun _ _ h => h) (fun S cA hcA => by
    obtain ⟨h1, h2, h3, h4, h5, h6⟩ := cell_nw (S := S) (c := 10) (N := N)
    rw [mCell_10 h1, h2, h5, hcA]
    rfl) hx hN hb hf hc hs h
theorem r_newD {N : Nat} {x : Int32} (hd : decode (uC u) pc = .ok (.newarray .double, 2)) (hx : ¬ x < 0) (hN : x.toNatClampNeg = N) (hb : N * 8 ≤ 536870912)
    (hf : uF u = true) (hc : k + 1 ≤ (uR u).cells) (hs : n + N ≤ (uR u).slots) (h : Run g l u Q (pc + 2) lv (.ref (mX S) :: st) (k + 1) (n + N) (nw S 11 N)) : Run g l u Q pc lv (.int x :: st) k n S :=
  r_newa (ty := .double) (kd := 11) (t0 := 4) hd rfl (by decide +kernel) rfl (fun _ _ h => h) (fun S cA hcA => by
    obtain ⟨h1, h2, h3, h4, h5, h6⟩ := cell_nw (S := S) (c := 11) (N := N)
    rw [mCell_11 h1, h2, h6, hcA]
    rfl) hx hN hb hf hc hs h
theorem r_newV {idx N : Nat} {x : Int32} (hd : decode (uC u) pc = .ok (.anewarray idx, 3)) (hm : Cond.classLink (uY u).cls idx RX4 ∈ lw_tbl) (hx : ¬ x < 0) (hN : x.toNatClampNeg = N) (hb : N * 4 ≤ 536870912)
    (hf : uF u = true) (hc : k + 1 ≤ (uR u).cells) (hs : n + N ≤ (uR u).slots) (h : Run g l u Q (pc + 3) lv (.ref (mX S) :: st) (k + 1) (n + N) (nw S 9 N)) : Run g l u Q pc lv (.int x :: st) k n S := by
  subst hN
  intro p e s m args below meth c A H locs ls C hW hS hl T hT X
  have hW' : okW g A S H s k true := by rw [← hf]; exact hW
  have hz := size_of X hT hW' hS
  suffices hw : W p l e (uR u) s m args below meth c H locs k n (Q args below s A) (F0 m pc ls (.int x :: st)) from hw T hT X
  refine W.anew (g := F0 m pc ls (.int x :: st)) (rest := st) C.1 C.2.1 C.2.2.2.2.1 (Cx_w C hm rfl) (va_AO.use C.2.2.2.2.2.2.2.2.1.2.2.2.2.2.2.1) rfl hd rfl hx hb hc hs (fun cA kA comp f1 f2 f3 f4 => ?_)
  obtain ⟨kA', comp', g1, g2, g3, g4⟩ := (C.2.2.2.2.2.2.2.2.1.2.2.1.2 2 _ rfl).2
  have hcA : cA = g.2.1 9 := Option.some.inj (f1.symm.trans g4)
  generalize hH1 : H.push ({ cls := cA, slots := Array.replicate x.toNatClampNeg .null, vm := .none } : Cell) = H1
  have z1 : H1.size = mX S + 1 := by rw [← hH1, Array.size_push, hz]
  have e1 : H1[mX S]? = some (arrV cA x.toNatClampNeg (fun _ => .null)) := by rw [← hH1, ← hz, Array.getElem?_push_size, ← arrV_new]
  have o1 : ∀ q : Nat, q < mX S → H1[q]? = H[q]? := fun q hq => by rw [← hH1, Array.getElem?_push, if_neg (by omega)]
  have hnk := nw_ok (c := 9) (N := x.toNatClampNeg) hz hW' hS C.2.2.2.2.2.2.2.2.2.1 z1 o1 (by
    obtain ⟨h1, h2, h3, h4, h5, h6⟩ := cell_nw (S := S) (c := 9) (N := x.toNatClampNeg)
    rw [mCell_9 h1, h2, h4]
    show H1[mX S]? = some (vp_cell _ _)
    rw [vp_cell_q, e1, hcA]
    rfl)
  show W p l e (uR u) s m args below meth c H1 locs (k + 1) (n + x.toNatClampNeg) (Q args below s A) (F0 m (pc + 3) ls (.ref H.size :: st))
  rw [hz]
  exact h p e s m args below meth c A H1 locs ls C (by rw [hf]; exact hnk.1) hnk.2 hl
end RN
