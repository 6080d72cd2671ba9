/-! a float by a wide index; switches -/
section RW9
variable {g : GG} {l : Launch} {u u2 : MU} {Q : FQ} {pc : Nat} {lv : List (Nat × Value)} {st : List Value} {k n : Nat} {S S1 : Mem}
theorem r_ldcfw {index : Nat} {v : UInt32} (hd : decode (uC u) pc = .ok (.ldc_w index, 3)) (hm : Cond.constantFloat (uY u).cls index v ∈ lw_tbl) (h : Run g l u Q (pc + 3) lv (.float v :: st) k n S) : Run g l u Q pc lv st k n S := by
  intro p e s m args below meth c A H locs ls C hW hS hl T hT X
  obtain ⟨t, a, b⟩ := h p e s m args below meth c A H locs ls C hW hS hl T hT X
  refine ⟨t, ?_, b⟩
  obtain ⟨kc, cf, hk, hcf, hcp⟩ := Cond.constantFloat_spec C.2.2.2.2.1 (Cx_w C hm rfl)
  obtain ⟨k', hk', he⟩ := X.warmed.alike.2.2 _ _ hk
  have hd' : decode c.code pc = .ok (.ldc_w index, 3) := by rw [C.2.1]; exact hd
  jvm_step X.here [X.here.top, C.1, hd', ldc_w.wp_float (s := T) (f := F0 m pc ls st) X.here.top hk' (by rw [he]; exact hcf) hcp]
  exact a
theorem r_tsIn {dflt lo hi : Int} {offs : Array Int} {len tgt : Nat} {x : Int32} {j off : Int} (hd : decode (uC u) pc = .ok (.tableswitch dflt lo hi offs, len)) (h1 : lo ≤ j) (h2 : j ≤ hi) (hx : x.toInt = j) (ho : offs[(j - lo).toNat]? = some off) (ht : (pc : Int) + off = (tgt : Int))
    (h : Run g l u Q tgt lv st k n S) : Run g l u Q pc lv (.int x :: st) k n S :=
  fun p e s m args below meth c A H locs ls C hW hS hl => lv_tableIn C.1 C.2.1 hd (by omega) (by omega) (by rw [hx]; exact ho) ht (h p e s m args below meth c A H locs ls C hW hS hl)
theorem r_tsOut {dflt lo hi : Int} {offs : Array Int} {len tgt : Nat} {x : Int32} (hd : decode (uC u) pc = .ok (.tableswitch dflt lo hi offs, len)) (hx : x.toInt < lo ∨ hi < x.toInt) (ht : (pc : Int) + dflt = (tgt : Int))
    (h : Run g l u Q tgt lv st k n S) : Run g l u Q pc lv (.int x :: st) k n S :=
  fun p e s m args below meth c A H locs ls C hW hS hl => lv_tableOut C.1 C.2.1 hd hx ht (h p e s m args below meth c A H locs ls C hW hS hl)
end RW9
theorem ne_toInt {x y : Int32} (h : ¬ x = y) : x.toInt ≠ y.toInt := fun q => h (Int32.toInt_inj.mp q)
