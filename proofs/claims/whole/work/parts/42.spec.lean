/-! What the calls do, in numbers: a record is its place, quality, number of alleles, their lengths, bases and depths, genotypes (one more than the allele, 0: missing), phases, likelihoods. -/
abbrev Rc : Type := Nat × Nat × Nat × (Nat → Nat) × (Nat → Nat) × (Nat → Nat) × (Nat → Nat) × (Nat → Nat) × (Nat → Nat)
def aP (r : Rc) : Nat := r.1
def aQ (r : Rc) : Nat := r.2.1
def aN (r : Rc) : Nat := r.2.2.1
def aL (r : Rc) : Nat → Nat := r.2.2.2.1
def aB (r : Rc) : Nat → Nat := r.2.2.2.2.1
def aD (r : Rc) : Nat → Nat := r.2.2.2.2.2.1
def aG (r : Rc) : Nat → Nat := r.2.2.2.2.2.2.1
def aH (r : Rc) : Nat → Nat := r.2.2.2.2.2.2.2.1
def aK (r : Rc) : Nat → Nat := r.2.2.2.2.2.2.2.2
def prs (n : Nat) : Nat := n * (n + 1) / 2
def prn (j k : Nat) : Nat := if j < k then k * (k + 1) / 2 + j else j * (j + 1) / 2 + k
/-- the number of the reference's bases from a place on -/
def rn (rf : Nat → Nat) (p : Nat) : Nat → Nat
  | 0 => 0
  | l + 1 => 4 * rn rf p l + rf (p + l)
def gI : Nat → Int32
  | 0 => m1
  | g + 1 => nI g
/-- sound alleles -/
def aAl (n : Nat) (L B : Nat → Nat) : Prop := (∀ i, i < n → 1 ≤ L i ∧ L i ≤ 8 ∧ B i < 4 ^ L i) ∧ ∀ i j, i < n → j < n → L i = L j → B i = B j → i = j
/-- a record lies on the reference -/
def aRf (p : Nat) (rf : Nat → Nat) (r : Rc) : Prop := 1 ≤ aP r ∧ aP r + aL r 0 ≤ p + 1 ∧ aB r 0 = rn rf (aP r) (aL r 0)
def aVl (r : Rc) : Prop := aQ r ≤ 8000 ∧ (∀ i, i < aN r → aD r i ≤ 9999) ∧ (∀ i, i < 4 → aG r i ≤ aN r) ∧ (∀ i, i < 2 → aH r i ≤ 1) ∧ ∀ i, i < prs (aN r) → aK r i ≤ 999 ∧ aK r (10 + i) ≤ 999
def aOk (p : Nat) (rf : Nat → Nat) (r : Rc) : Prop := (2 ≤ aN r ∧ aN r ≤ 4) ∧ aAl (aN r) (aL r) (aB r) ∧ aRf p rf r ∧ aVl r
/-- a sound draft -/
def aDok (p : Nat) (rf : Nat → Nat) (r : Rc) : Prop := (1 ≤ aN r ∧ aN r ≤ 4) ∧ aAl (aN r) (aL r) (aB r) ∧ aRf p rf r ∧ aVl r ∧ (∀ i, aN r ≤ i → i < 4 → aD r i = 0) ∧ ∀ i, i < 20 → aK r i ≤ 999
/-- a Variant that holds a record -/
def zCR (S : Mem) (v : Nat) (r : Rc) : Prop := (mI S v 0 = nI (aP r) ∧ mI S v 1 = nI (aQ r) ∧ mI S v 2 = nI (aN r)) ∧ (∀ i, i < aN r → mI S (v + 1) i = nI (aB r i) ∧ mI S (v + 2) i = nI (aL r i) ∧ mI S (v + 3) i = nI (aD r i)) ∧ (∀ i, i < 4 → mI S (v + 4) i = gI (aG r i)) ∧ (∀ i, i < 2 → mI S (v + 5) i = nI (aH r i)) ∧ ∀ i, i < prs (aN r) → mI S (v + 6) i = nI (aK r i) ∧ mI S (v + 6) (10 + i) = nI (aK r (10 + i))
/-- a row that holds a record -/
def zMR (W : Nat → Int32) (o : Nat) (r : Rc) : Prop := (W o = nI (aP r) ∧ W (o + 10) = nI (aQ r) ∧ W (o + 1) = nI (aN r)) ∧ (∀ i, i < aN r → W (o + (6 + i)) = nI (aB r i) ∧ W (o + (2 + i)) = nI (aL r i) ∧ W (o + (11 + i)) = nI (aD r i)) ∧ (W (o + 15) = gI (aG r 0) ∧ W (o + 16) = gI (aG r 1) ∧ W (o + 18) = gI (aG r 2) ∧ W (o + 19) = gI (aG r 3)) ∧ (W (o + 17) = nI (aH r 0) ∧ W (o + 20) = nI (aH r 1)) ∧ ∀ i, i < prs (aN r) → W (o + (21 + i)) = nI (aK r i) ∧ W (o + (31 + i)) = nI (aK r (10 + i))
/-! the state: places, bases, whether there is a draft, the draft, the records, the typed bytes -/
abbrev As : Type := Nat × (Nat → Nat) × Bool × Rc × List Rc × List Nat
def xP (s : As) : Nat := s.1
def xF (s : As) : Nat → Nat := s.2.1
def xD (s : As) : Bool := s.2.2.1
def xR (s : As) : Rc := s.2.2.2.1
def xL (s : As) : List Rc := s.2.2.2.2.1
def xT (s : As) : List Nat := s.2.2.2.2.2
def xOk (s : As) : Prop := xP s ≤ 160 ∧ (∀ i, xF s i < 4) ∧ (xD s = true → aDok (xP s) (xF s) (xR s)) ∧ (∀ r, r ∈ xL s → aOk (xP s) (xF s) r) ∧ (xL s).length ≤ 24 ∧ (xT s).length ≤ 120 ∧ ∀ b, b ∈ xT s → b < 256
/-- which Variants the rows hold -/
def zPm (z : Nat) (S : Mem) (p : Nat → Nat) : Prop := (∀ i, i < 24 → p i < 24 ∧ mR S (z + 4) i = some (z + 5 + 7 * p i)) ∧ ∀ i j, i < 24 → j < 24 → p i = p j → i = j
/-- the list holds the records -/
def zLv (z : Nat) (S : Mem) (p : Nat → Nat) (ls : List Rc) : Prop := zPm z S p ∧ mI S (z + 3) 1 = nI ls.length ∧ ∀ i r, ls[i]? = some r → zCR S (z + 5 + 7 * p i) r
def zRf (z : Nat) (S : Mem) (p : Nat) (rf : Nat → Nat) : Prop := mI S (z + 1) 1 = nI p ∧ ∀ i, i < p → mI S (z + 2) i = nI (rf (i + 1))
def zDf (z : Nat) (S : Mem) (d : Bool) (r : Rc) : Prop := mI S z 3 = nI d.toNat ∧ (d = true → zCR S (z + 173) r ∧ ∀ i, i < 20 → mI S (z + 173 + 6) i = nI (aK r i))
def zTy (z : Nat) (S : Mem) (t : List Nat) : Prop := mI S (z + 210) 1 = nI t.length ∧ ∀ i b, t[i]? = some b → mI S (z + 211) i = nI b
/-- the class holds the state -/
def zCl (z : Nat) (s : As) (S : Mem) : Prop := zSt z S ∧ (∃ p, zLv z S p (xL s)) ∧ zRf z S (xP s) (xF s) ∧ zDf z S (xD s) (xR s) ∧ zTy z S (xT s)
def zMl (z : Nat) (S : Mem) (ls : List Rc) : Prop := mI S (z + 214) 4 = nI ls.length ∧ ∀ i r, ls[i]? = some r → zMR (mI S (z + 216)) (41 * i) r
def zMf (z : Nat) (S : Mem) (p : Nat) (rf : Nat → Nat) : Prop := mI S (z + 214) 2 = nI p ∧ ∀ i, i < p → mI S (z + 215) (i + 1) = nI (rf (i + 1))
def zMd (z : Nat) (S : Mem) (d : Bool) (r : Rc) : Prop := mI S (z + 214) 3 = nI d.toNat ∧ (d = true → zMR (mI S (z + 216)) (41 * 24) r ∧ (∀ i, i < 20 → mI S (z + 216) (41 * 24 + (21 + i)) = nI (aK r i)) ∧ ∀ i, i < 4 → mI S (z + 216) (41 * 24 + (11 + i)) = nI (aD r i))
def zMt (z : Nat) (S : Mem) (t : List Nat) : Prop := mI S (z + 214) 9 = nI t.length ∧ ∀ i b, t[i]? = some b → mI S (z + 218) i = nI b
/-- the reference holds the state -/
def zMo (z : Nat) (s : As) (S : Mem) : Prop := zSt z S ∧ zMl z S (xL s) ∧ zMf z S (xP s) (xF s) ∧ zMd z S (xD s) (xR s) ∧ zMt z S (xT s)
/-! the calls: what is thrown (0: nothing), the answer, the state after -/
def dg (b : Int64) (d : Nat) : Nat := b.toBitVec.toNat / 4 ^ d % 4
def by8 (b : Int64) (d : Nat) : Nat := b.toBitVec.toNat / 256 ^ d % 256
def o_reference (s : As) (b : Int64) (n : Int32) : Int32 × Int32 × As :=
  if n < nI 1 ∨ nI 16 < n then (nI 1, nI 0, s)
  else if xD s = true ∨ (xL s).length ≠ 0 ∨ 160 < xP s + tn n then (nI 2, nI 0, s)
  else (nI 0, nI (xP s + tn n), (xP s + tn n, (fun i => if xP s < i ∧ i ≤ xP s + tn n then dg b (xP s + tn n - i) else xF s i), s.2.2))
def wDraft (s : As) (d : Bool) (r : Rc) : As := (xP s, xF s, d, r, xL s, xT s)
def wList (s : As) (l : List Rc) : As := (xP s, xF s, xD s, xR s, l, xT s)
def wTyped (s : As) (t : List Nat) : As := (xP s, xF s, xD s, xR s, xL s, t)
def newDraft (rf : Nat → Nat) (p l : Nat) : Rc := (p, 0, 1, (fun _ => l), (fun _ => rn rf p l), (fun _ => 0), (fun _ => 0), (fun _ => 0), (fun _ => 0))
def o_draft (s : As) (p l : Int32) : Int32 × As :=
  if l < nI 1 ∨ nI 8 < l ∨ p < nI 1 ∨ nI (xP s) - l + nI 1 < p then (nI 1, s)
  else (nI 0, wDraft s true (newDraft (xF s) (tn p) (tn l)))
def aSetA (r : Rc) (l b : Nat) : Rc := (aP r, aQ r, aN r + 1, va_up (aL r) (aN r) l, va_up (aB r) (aN r) b, va_up (aD r) (aN r) 0, aG r, aH r, aK r)
def hasA (n : Nat) (L B : Nat → Nat) (l b : Nat) : Bool := decide (∃ i, i < n ∧ L i = l ∧ B i = b)
def o_allele (s : As) (b : Int64) (n : Int32) : Int32 × Int32 × As :=
  if n < nI 1 ∨ nI 8 < n then (nI 1, nI 0, s)
  else if xD s = false ∨ aN (xR s) = 4 ∨ hasA (aN (xR s)) (aL (xR s)) (aB (xR s)) (tn n) (b.toBitVec.toNat % 4 ^ tn n) = true then (nI 2, nI 0, s)
  else (nI 0, nI (aN (xR s)), wDraft s true (aSetA (xR s) (tn n) (b.toBitVec.toNat % 4 ^ tn n)))
def o_depth (s : As) (a d q : Int32) : Int32 × As :=
  if xD s = false ∨ a < nI 0 ∨ nI (aN (xR s)) ≤ a ∨ d < nI 0 ∨ nI 9999 < d ∨ q < nI 0 ∨ nI 8000 < q then (nI 1, s)
  else (nI 0, wDraft s true (aP (xR s), tn q, aN (xR s), aL (xR s), aB (xR s), va_up (aD (xR s)) (tn a) (tn d), aG (xR s), aH (xR s), aK (xR s)))
def gN (x : Int32) : Nat := if x < nI 0 then 0 else tn x + 1
def o_genotype (s : As) (m f g h : Int32) : Int32 × As :=
  if xD s = false ∨ m < nI 0 ∨ nI 2 ≤ m ∨ f < m1 ∨ nI (aN (xR s)) ≤ f ∨ g < m1 ∨ nI (aN (xR s)) ≤ g then (nI 1, s)
  else (nI 0, wDraft s true (aP (xR s), aQ (xR s), aN (xR s), aL (xR s), aB (xR s), aD (xR s), va_up (va_up (aG (xR s)) (2 * tn m) (gN f)) (2 * tn m + 1) (gN g), va_up (aH (xR s)) (tn m) (tn h), aK (xR s)))
def o_likelihood (s : As) (m i x : Int32) : Int32 × As :=
  if xD s = false ∨ m < nI 0 ∨ nI 2 ≤ m ∨ i < nI 0 ∨ nI (prs (aN (xR s))) ≤ i ∨ x < nI 0 ∨ nI 999 < x then (nI 1, s)
  else (nI 0, wDraft s true (aP (xR s), aQ (xR s), aN (xR s), aL (xR s), aB (xR s), aD (xR s), aG (xR s), aH (xR s), va_up (aK (xR s)) (10 * tn m + tn i) (tn x)))
/-- behind the records of its place -/
def ipos : List Rc → Nat → Nat
  | [], _ => 0
  | x :: xs, p => if aP x ≤ p then ipos xs p + 1 else 0
def insR (l : List Rc) (r : Rc) : List Rc := l.insertIdx (ipos l (aP r)) r
def o_add (s : As) : Int32 × Int32 × As :=
  if xD s = false ∨ aN (xR s) < 2 ∨ (xL s).length = 24 then (nI 1, nI 0, s)
  else (nI 0, nI (ipos (xL s) (aP (xR s))), wList (wDraft s false (xR s)) (insR (xL s) (xR s)))
def o_remove (s : As) (i : Int32) : Int32 × As :=
  if i < nI 0 ∨ nI (xL s).length ≤ i then (nI 1, s) else (nI 0, wList s ((xL s).eraseIdx (tn i)))
def rd0 : Rc := (0, 0, 0, (fun _ => 0), (fun _ => 0), (fun _ => 0), (fun _ => 0), (fun _ => 0), (fun _ => 0))
def xAt (s : As) (i : Nat) : Rc := (xL s).getD i rd0
/-! normalising -/
def aTwo (n : Nat) (L : Nat → Nat) : Bool := decide (∀ i, i < n → 1 < L i)
def aEnd (n : Nat) (B : Nat → Nat) : Bool := decide (∀ i, i < n → B i % 4 = B 0 % 4)
def fst (L B : Nat → Nat) (i : Nat) : Nat := B i / 4 ^ (L i - 1) % 4
def aFst (n : Nat) (L B : Nat → Nat) : Bool := decide (∀ i, i < n → fst L B i = fst L B 0)
def wAl (r : Rc) (p : Nat) (L B : Nat → Nat) : Rc := (p, aQ r, aN r, L, B, aD r, aG r, aH r, aK r)
def rStep (rf : Nat → Nat) (r : Rc) : Option Rc :=
  if aEnd (aN r) (aB r) = true ∧ (aTwo (aN r) (aL r) = true ∨ 1 < aP r) then
    if aTwo (aN r) (aL r) = true then some (wAl r (aP r) (fun i => aL r i - 1) (fun i => aB r i / 4))
    else some (wAl r (aP r - 1) (aL r) (fun i => aB r i / 4 + rf (aP r - 1) * 4 ^ (aL r i - 1)))
  else if aTwo (aN r) (aL r) = true ∧ aFst (aN r) (aL r) (aB r) = true then some (wAl r (aP r + 1) (fun i => aL r i - 1) (fun i => aB r i % 4 ^ (aL r i - 1)))
  else none
def rTrim (rf : Nat → Nat) : Nat → Rc → Rc
  | 0, r => r
  | m + 1, r => match rStep rf r with
    | none => r
    | some r' => rTrim rf m r'
def o_normalise (s : As) (i : Int32) : Int32 × Int32 × As :=
  if i < nI 0 ∨ nI (xL s).length ≤ i then (nI 1, nI 0, s)
  else (nI 0, nI (ipos ((xL s).eraseIdx (tn i)) (aP (rTrim (xF s) 1000 (xAt s (tn i))))), wList s (insR ((xL s).eraseIdx (tn i)) (rTrim (xF s) 1000 (xAt s (tn i)))))
/-! splitting -/
def aPart (r : Rc) (a : Nat) : Rc := (aP r, aQ r, 2, (fun i => if i = 0 then aL r 0 else aL r a), (fun i => if i = 0 then aB r 0 else aB r a), (fun i => if i = 0 then aD r 0 else aD r a),
  (fun i => if aG r i = 0 then 0 else if aG r i = a + 1 then 2 else 1), aH r, fun i => if i % 10 = 0 then aK r i else if i % 10 = 1 then aK r (i - 1 + prn 0 a) else aK r (i - 2 + prn a a))
def spl (r : Rc) (i : Nat) : Nat → Nat → List Rc → List Rc
  | 0, _, l => l
  | m + 1, j, l => spl r i m (j + 1) (l.insertIdx (i + j) (aPart r (j + 1)))
def o_split (s : As) (i : Int32) : Int32 × Int32 × As :=
  if i < nI 0 ∨ nI (xL s).length ≤ i then (nI 1, nI 0, s)
  else if aN (xAt s (tn i)) < 3 ∨ 24 < (xL s).length + aN (xAt s (tn i)) - 2 then (nI 2, nI 0, s)
  else (nI 0, nI (aN (xAt s (tn i)) - 1), wList s (spl (xAt s (tn i)) (tn i) (aN (xAt s (tn i)) - 1) 0 ((xL s).eraseIdx (tn i))))
/-! joining -/
def fndA (n : Nat) (L B : Nat → Nat) (l b : Nat) : Nat → Nat → Option Nat
  | 0, _ => none
  | m + 1, j => if L j = l ∧ B j = b then some j else fndA n L B l b m (j + 1)
def fnd (n : Nat) (L B : Nat → Nat) (l b : Nat) : Option Nat := fndA n L B l b n 0
def jL (r o : Rc) : Nat → Nat := fun i => aL r i + (aL o 0 - aL r 0)
def jB (r o : Rc) : Nat → Nat := fun i => aB r i * 4 ^ (aL o 0 - aL r 0) + aB o 0 % 4 ^ (aL o 0 - aL r 0)
def jAdd (Ly By : Nat → Nat) : Nat → Nat → Nat → (Nat → Nat) → (Nat → Nat) → (Nat → Nat) → Option (Nat × (Nat → Nat) × (Nat → Nat) × (Nat → Nat))
  | 0, _, n, L, B, w => some (n, L, B, w)
  | m + 1, a, n, L, B, w => match fnd n L B (Ly a) (By a) with
    | some k => jAdd Ly By m (a + 1) n L B (va_up w a k)
    | none => if n = 4 then none else jAdd Ly By m (a + 1) (n + 1) (va_up L n (Ly a)) (va_up B n (By a)) (va_up w a n)
def bkA (w : Nat → Nat) (k : Nat) : Nat → Nat → Option Nat
  | 0, _ => none
  | m + 1, a => if w a = k then some a else bkA w k m (a + 1)
def bk (w : Nat → Nat) (n k : Nat) : Option Nat := bkA w k n 0
def ppJ (i : Nat) : Nat := ([0, 0, 1, 0, 1, 2, 0, 1, 2, 3] : List Nat).getD (i % 10) 0
def ppK (i : Nat) : Nat := ([0, 1, 1, 2, 2, 2, 3, 3, 3, 3] : List Nat).getD (i % 10) 0
def lk1 (r : Rc) (i : Nat) : Nat := if ppK i < aN r then aK r i else 999
def lk2 (r : Rc) (w : Nat → Nat) (i : Nat) : Nat := match bk w (aN r) (ppJ i), bk w (aN r) (ppK i) with
  | some a, some b => aK r (i / 10 * 10 + prn a b)
  | _, _ => 999
def bkD (r : Rc) (w : Nat → Nat) (k : Nat) : Nat := match bk w (aN r) k with
  | some a => aD r a
  | none => 0
def jRec (x y : Rc) (n : Nat) (L B w : Nat → Nat) : Rc := (aP x, max (aQ x) (aQ y), n, L, B,
  (fun k => if k = 0 then max (aD x 0) (aD y 0) else min 9999 ((if k < aN x then aD x k else 0) + bkD y w k)),
  (fun i => if 1 < aG x i then aG x i else if aG y i = 0 then aG x i else w (aG y i - 1) + 1), (fun i => aH x i * aH y i), fun i => min (lk1 x i) (lk2 y w i))
def jJoin (x y : Rc) : Option Rc :=
  if (∃ i, i < aN x ∧ 8 < jL x y i) ∨ ∃ i, i < aN y ∧ 8 < jL y x i then none
  else (jAdd (jL y x) (jB y x) (aN y) 0 (aN x) (jL x y) (jB x y) (fun _ => 0)).map fun t => jRec x y t.1 t.2.1 t.2.2.1 t.2.2.2
def o_join (s : As) (i : Int32) : Int32 × As :=
  if i < nI 0 ∨ nI (xL s).length ≤ i then (nI 1, s)
  else if (xL s).length ≤ tn i + 1 ∨ aP (xAt s (tn i + 1)) ≠ aP (xAt s (tn i)) then (nI 2, s)
  else match jJoin (xAt s (tn i)) (xAt s (tn i + 1)) with
    | none => (nI 3, s)
    | some r => (nI 0, wList s (((xL s).eraseIdx (tn i + 1)).set (tn i) r))
/-! bytes -/
def ltr (b : Nat) : Nat := ([65, 67, 71, 84] : List Nat).getD b 0
def bAl (l b : Nat) : List Nat := (16 * l + 7) :: (List.range l).map (fun i => ltr (b / 4 ^ (l - 1 - i) % 4))
def bWide (f : Nat → Nat) (n : Nat) : Bool := decide (∃ i, i < n ∧ 127 < f i)
def bRow (f : Nat → Nat) (n : Nat) : List Nat := (16 * n + if bWide f n = true then 2 else 1) :: (List.range n).flatMap (fun i => if bWide f n = true then [f i % 256, f i / 256] else [f i])
def bSm (r : Rc) (m : Nat) : List Nat := [33, 2 * aG r (2 * m) + aH r m, 2 * aG r (2 * m + 1) + aH r m] ++ bRow (fun i => aK r (10 * m + i)) (prs (aN r))
def bts (r : Rc) : List Nat := [aP r % 256, aP r / 256, aQ r % 256, aQ r / 256, aN r] ++ (List.range (aN r)).flatMap (fun i => bAl (aL r i) (aB r i)) ++ bRow (aD r) (aN r) ++ bSm r 0 ++ bSm r 1
def o_written (s : As) (i j : Int32) : Int32 × Int32 :=
  if i < nI 0 ∨ nI (xL s).length ≤ i then (nI 1, nI 0)
  else if j < m1 ∨ nI (bts (xAt s (tn i))).length ≤ j then (nI 2, nI 0)
  else if j = m1 then (nI 0, nI (bts (xAt s (tn i))).length) else (nI 0, nI ((bts (xAt s (tn i))).getD (tn j) 0))
def o_type (s : As) (b : Int64) (n : Int32) : Int32 × As :=
  if n < nI 1 ∨ nI 8 < n then (nI 1, s)
  else if 120 < (xT s).length + tn n then (nI 2, s)
  else (nI 0, wTyped s (xT s ++ (List.range (tn n)).map (fun i => by8 b (tn n - 1 - i))))
/-! reading -/
def pb (t : List Nat) (i : Nat) : Nat := t.getD i 0
def p2 (t : List Nat) (i : Nat) : Nat := pb t i + 256 * pb t (i + 1)
def pLet (x : Nat) : Nat := if x = 67 then 1 else if x = 71 then 2 else if x = 84 then 3 else 0
def pBs (t : List Nat) (i : Nat) : Nat → Nat
  | 0 => 0
  | l + 1 => 4 * pBs t i l + pLet (pb t (i + l))
def pAl (t : List Nat) : Nat → Nat → Nat → (Nat → Nat) → (Nat → Nat) → Option (Nat × (Nat → Nat) × (Nat → Nat))
  | 0, _, i, L, B => some (i, L, B)
  | m + 1, a, i, L, B =>
    if pb t i / 16 < 1 ∨ 8 < pb t i / 16 then none
    else if fnd a L B (pb t i / 16) (pBs t (i + 1) (pb t i / 16)) = none then pAl t m (a + 1) (i + 1 + pb t i / 16) (va_up L a (pb t i / 16)) (va_up B a (pBs t (i + 1) (pb t i / 16)))
    else none
def pW (t : List Nat) (i : Nat) : Bool := decide (pb t i % 16 = 2)
def pRw (t : List Nat) (i : Nat) (k : Nat) : Nat := if pW t i = true then p2 t (i + 1 + 2 * k) else pb t (i + 1 + k)
def pNx (t : List Nat) (i n : Nat) : Nat := i + 1 + if pW t i = true then 2 * n else n
def pRec (t : List Nat) (n i : Nat) (L B : Nat → Nat) : Rc :=
  (p2 t 0, p2 t 2, n, L, B, pRw t i, (fun g => if g < 2 then pb t (pNx t i n + 1 + g) / 2 else pb t (pNx t (pNx t i n + 3) (prs n) + (g - 1)) / 2),
    (fun m => if m = 0 then pb t (pNx t i n + 1) % 2 else pb t (pNx t (pNx t i n + 3) (prs n) + 1) % 2),
    fun k => if k < 10 then pRw t (pNx t i n + 3) k else pRw t (pNx t (pNx t i n + 3) (prs n) + 3) (k - 10))
def pVd (n : Nat) (r : Rc) : Bool := decide (∀ k, k < n → aD r k ≤ 9999) && (decide (aG r 0 ≤ n ∧ aG r 1 ≤ n ∧ aG r 2 ≤ n ∧ aG r 3 ≤ n) && (decide (∀ k, k < prs n → aK r k ≤ 999) && decide (∀ k, k < prs n → aK r (10 + k) ≤ 999)))
def prse (p : Nat) (rf : Nat → Nat) (t : List Nat) : Option Rc :=
  if p2 t 2 ≤ 8000 ∧ 2 ≤ pb t 4 ∧ pb t 4 ≤ 4 then
    match pAl t (pb t 4) 0 5 (fun _ => 0) (fun _ => 0) with
    | none => none
    | some (i, L, B) => if (1 ≤ p2 t 0 ∧ p2 t 0 + L 0 ≤ p + 1 ∧ B 0 = rn rf (p2 t 0) (L 0)) ∧ pVd (pb t 4) (pRec t (pb t 4) i L B) = true then some (pRec t (pb t 4) i L B) else none
  else none
def o_read (s : As) : Int32 × Int32 × As :=
  if (xL s).length = 24 then (nI 2, nI 0, wTyped s [])
  else match prse (xP s) (xF s) (xT s) with
    | none => (nI 1, nI 0, wTyped s [])
    | some r => if bts r = xT s then (nI 0, nI (ipos (xL s) (aP r)), wTyped (wList s (insR (xL s) r)) []) else (nI 1, nI 0, wTyped s [])
/-! asking -/
def aBin (r : Rc) : Nat := if aP r / 8 = (aP r + aL r 0 - 1) / 8 then 11 + aP r / 8 else if aP r / 32 = (aP r + aL r 0 - 1) / 32 then 3 + aP r / 32 else if aP r / 128 = (aP r + aL r 0 - 1) / 128 then 1 + aP r / 128 else 0
def o_about (s : As) (i w : Int32) : Int32 × Int32 :=
  if i < nI 0 ∨ nI (xL s).length ≤ i ∨ w < nI 0 ∨ nI 5 ≤ w then (nI 1, nI 0)
  else (nI 0, if w = nI 0 then nI (aP (xAt s (tn i))) else if w = nI 1 then nI (aN (xAt s (tn i))) else if w = nI 2 then nI (aL (xAt s (tn i)) 0) else if w = nI 3 then nI (aQ (xAt s (tn i))) else nI (aBin (xAt s (tn i))))
def o_base (s : As) (i a j : Int32) : Int32 × Int32 :=
  if i < nI 0 ∨ nI (xL s).length ≤ i then (nI 1, nI 0)
  else if a < nI 0 ∨ nI (aN (xAt s (tn i))) ≤ a then (nI 1, nI 0)
  else if j < m1 ∨ nI (aL (xAt s (tn i)) (tn a)) ≤ j then (nI 2, nI 0)
  else if j = m1 then (nI 0, nI (aL (xAt s (tn i)) (tn a))) else (nI 0, nI (aB (xAt s (tn i)) (tn a) / 4 ^ (aL (xAt s (tn i)) (tn a) - 1 - tn j) % 4))
def spn (b e : Int32) (r : Rc) : Bool := decide (nI (aP r) ≤ e ∧ b < nI (aP r + aL r 0))
def cnt (b e : Int32) : List Rc → Nat
  | [] => 0
  | x :: xs => (if spn b e x = true then 1 else 0) + cnt b e xs
def bad2 (b e : Int32) : Bool := decide (b < nI 1 ∨ e < b ∨ nI 255 < e)
def o_found (s : As) (b e : Int32) : Int32 × Int32 := if bad2 b e = true then (nI 1, nI 0) else (nI 0, nI (cnt b e (xL s)))
def mn8 : UInt32 := 1040187392
def sm8 (b e : Int32) : List Rc → UInt32 → UInt32
  | [], x => x
  | r :: rs, x => sm8 b e rs (if spn b e r = true then FP.fadd x (FP.fmul (FP.i2f (nI (aQ r))) mn8) else x)
def o_mean (s : As) (b e : Int32) : Int32 × UInt32 :=
  if bad2 b e = true then (nI 1, 0) else if cnt b e (xL s) = 0 then (nI 2, 0) else (nI 0, FP.fdiv (sm8 b e (xL s) FP.fconst0) (FP.i2f (nI (cnt b e (xL s)))))
