/-! the mathematics of a world: a row v of numbers -/
abbrev WV : Type := Nat → Int32
def mN (v : WV) : Nat := (v 1).toNatClampNeg
def tN (v : WV) : Nat := (v 14).toNatClampNeg
def drawN (v : WV) : Int32 := v 0 * 1103515245 + 12345
def drawV (v : WV) : WV := upd v 0 (drawN v)
def shr8 (x : Int32) : Int32 := (x.toUInt32 >>> ((8 : Int32).toUInt32 &&& Int32.toUInt32 31)).toInt32
def drawR (v : WV) : Int32 := shr8 (drawN v)
def apF (a b : Int32) : Int32 := if a - b < 0 then -(a - b) else a - b
def spF (kind plain apart : Int32) : Int32 := if kind = 1 then (if 0 < apart then plain + 2 else plain) else if kind = 2 then plain + 3 else if kind = 3 then 2 * (if 0 < apart then plain + 2 else plain) else if kind = 4 then 0 else plain
def htF (kind apart : Int32) : Int32 := if kind = 1 then 2 * apart else if kind = 2 then apart / 2 else if kind = 3 then clampF (2 * apart - 1) 0 99 else if kind = 4 then apart / 2 else if kind = 5 then 0 else apart
def shF (kind own that : Int32) : Int32 := if kind = 2 then (if own = that then (if own = 3 then -3 else own + 1) else clampF (if that < own then own + 1 else own - 1) (-3) 3) else if kind = 3 then that else if kind = 4 then own else if kind = 5 then own else (if own < that then own + 1 else if that < own then own - 1 else own)
def woF (kind temper : Int32) : Int32 := if kind = 1 then temper + 4 else if kind = 2 then 120 - temper else if kind = 3 then 2 * (temper + 4) else if kind = 4 then 114 - temper else if kind = 5 then 3 else temper
def cntF (v : WV) (key : Int32) : Nat → Int32
  | 0 => -1
  | t + 1 => if v (96 + 2 * t) / 1000 = key then nI t else cntF v key t
def lawF (v : WV) (key : Int32) : Int32 := cntF v key (tN v)
/-- the stack machine of texts -/
def twoF (c a b : Int32) : Int32 := if c = -1 then (if ¬ a = 0 ∨ ¬ b = 0 then 1 else 0) else if c = -2 then (if ¬ a = 0 ∧ ¬ b = 0 then 1 else 0) else if c = -3 then (if a < b then 1 else 0) else if c = -4 then (if a = b then 1 else 0) else if c = -5 then (if b < a then 1 else 0) else if c = -6 then a + b else if c = -7 then a - b else if c = -8 then a * b else if b = 0 then 0 else a / b
def evS (fa : Nat → Int32) (c : Int32) (s : List Int32) : List Int32 :=
  if 0 ≤ c then (if c < 10000 then c else fa (c - 10000).toNatClampNeg) :: s
  else if c = -10 then (match s with | x :: r => (if x = 0 then 1 else 0) :: r | [] => [])
  else (match s with | b :: a :: r => twoF c a b :: r | l => l)
def evL (fa : Nat → Int32) (cd : Nat → Int32) : Nat → List Int32
  | 0 => []
  | k + 1 => evS fa (cd k) (evL fa cd k)
def cdF (v : WV) (t : Nat) : Nat → Int32 := fun k => v (124 + 96 * t + k)
def lnF (v : WV) (t : Nat) : Nat := (v (96 + 2 * t) - v (96 + 2 * t) / 1000 * 1000).toNatClampNeg
def f3 (a b c : Int32) : Nat → Int32 := fun k => if k = 0 then a else if k = 1 then b else if k = 2 then c else 0
def evF (v : WV) (t : Nat) (fa : Nat → Int32) : Int32 := (evL fa (cdF v t) (lnF v t)).headD 0
/-- the depth of the stack behind k codes, if all goes well -/
def dpF (cd : Nat → Int32) : Nat → Option Nat
  | 0 => some 0
  | k + 1 => (dpF cd k).bind (fun d => if 0 ≤ cd k then (if cd k < 10003 then some (d + 1) else none) else if cd k = -10 then (if 1 ≤ d then some d else none) else (if 2 ≤ d ∧ -9 ≤ cd k then some (d - 1) else none))
def tmF (v : WV) (p : Nat) : Int32 := v (17 + 9 * p)
def kdF (v : WV) (p : Nat) : Int32 := v (15 + 9 * p)
def vwF (v : WV) (p j : Nat) : Int32 := v (18 + 9 * p + j)
def apV (v : WV) (p o j : Nat) : Int32 := apF (vwF v p j) (vwF v o j)
def plF (v : WV) (p : Nat) (apart : Int32) : Int32 := if lawF v 0 < 0 then apart else clampF (evF v (lawF v 0).toNatClampNeg (f3 apart (tmF v p) (v 2))) 0 99
def spV (v : WV) (p o j : Nat) : Int32 := spF (kdF v p) (plF v p (apV v p o j)) (apV v p o j)
def htV (v : WV) (p o j : Nat) : Int32 := htF (kdF v p) (apV v p o j)
def shV (v : WV) (p o j : Nat) : Int32 := shF (kdF v p) (vwF v p j) (vwF v o j)
def goV (v : WV) (p o : Nat) : WV := upd (upd (upd (upd (upd v (16 + 9 * p) 2) (16 + 9 * o) 2) 7 (if nI p < nI o then nI p else nI o)) 8 (if nI p < nI o then nI o else nI p)) 6 1
def toV (v : WV) (p o : Nat) (bank : Int32) : WV := upd (upd (upd (upd v (16 + 9 * p) bank) (16 + 9 * o) bank) 5 bank) 6 0
/-- the next one at a bank from a on, of the first n -/
def nxF (v : WV) (bank : Int32) (n : Nat) : Nat → Option Nat
  | 0 => none
  | f + 1 => if v (16 + 9 * (n - (f + 1))) = bank then some (n - (f + 1)) else nxF v bank n f
def nxA (v : WV) (bank : Int32) (a : Nat) : Option Nat := nxF v bank (mN v) (mN v - a)
def rem6 (x : Int32) : Int32 := x - x / 6 * 6
def idV (v : WV) : WV := upd (upd v 13 (v 13 + 1)) 5 (1 - v 5)
def waV (v : WV) : WV := match nxA v (v 5) 0 with
  | none => idV v
  | some p => match nxA v (v 5) (p + 1) with
    | none => idV v
    | some o => upd (drawV (goV v p o)) 9 (rem6 (drawR (goV v p o)))
def q1V (v : WV) (p o j : Nat) : WV := upd v 6 (v 6 + (if apV v p o j = 0 then (-1) - v 3 else spV v p o j + spV v o p j - v 3))
def q2V (v : WV) (p o j : Nat) : WV := upd v (17 + 9 * p) (clampF (tmF v p + htV v p o j) 0 99)
def q3V (v : WV) (p o j : Nat) : WV := q2V (q2V (q1V v p o j) p o j) o p j
def q4V (v : WV) (p o j : Nat) : WV := upd (upd v (18 + 9 * o + j) (shV v o p j)) (18 + 9 * p + j) (shV v p o j)
def quE (u : WV) (p o j : Nat) : WV :=
  if u 4 ≤ tmF u p + tmF u o then toV (upd (upd (upd u 12 (u 12 + 1)) (17 + 9 * p) 0) (17 + 9 * o) 0) p o (u 5)
  else if 30 ≤ u 6 then toV (upd u 10 (u 10 + 2)) p o (1 - u 5)
  else if u 6 ≤ 0 then toV (upd u 11 (u 11 + 1)) p o (u 5)
  else if apV (q4V u p o j) p o j = 0 then upd (drawV (q4V u p o j)) 9 (rem6 (drawR (q4V u p o j))) else q4V u p o j
def quV (v : WV) (p o j : Nat) : WV := quE (q3V v p o j) p o j
def miV (v : WV) : WV :=
  let u := if v 6 = 0 then waV v else quV v (v 7).toNatClampNeg (v 8).toNatClampNeg (v 9).toNatClampNeg
  upd u 2 (u 2 + 1)
def miN (v : WV) : Nat → WV
  | 0 => v
  | n + 1 => miV (miN v n)
def acF (v : WV) : Nat → Int32
  | 0 => 0
  | i + 1 => acF v i ||| (if v (16 + 9 * i) = 1 then (1 : Int32) <<< (nI i &&& 31) else 0)
def teF (v : WV) : Nat → Int32
  | 0 => 0
  | i + 1 => teF v i + v (17 + 9 * i)
/-- what stands of a text: its length, its depth -/
def txOk (v : WV) (t : Nat) : Prop := 1 ≤ lnF v t ∧ lnF v t ≤ 96 ∧ dpF (cdF v t) (lnF v t) = some 1 ∧ (∀ k, k ≤ lnF v t → ∃ q, dpF (cdF v t) k = some q ∧ q ≤ 47) ∧ v (96 + 2 * t) = v (96 + 2 * t) / 1000 * 1000 + nI (lnF v t)
def paOk (v : WV) (p : Nat) : Prop := (∃ c, c < 6 ∧ kdF v p = nI c) ∧ (∃ t, t < 100 ∧ tmF v p = nI t) ∧ (∃ b, b < 3 ∧ v (16 + 9 * p) = nI b) ∧ ∀ j, j < 6 → ∃ q, q < 7 ∧ vwF v p j = nI q - 3
/-- a world that is well -/
def IV (v : WV) : Prop := (∃ m, m ≤ 9 ∧ v 1 = nI m ∧ ∀ p, p < m → paOk v p) ∧ (∃ b, b < 2 ∧ v 5 = nI b) ∧ (∃ w, w < 30 ∧ v 6 = nI w ∧ (0 < w → ∃ p o j, p < o ∧ o < mN v ∧ j < 6 ∧ v 7 = nI p ∧ v 8 = nI o ∧ v 9 = nI j)) ∧ (∃ x, x < 10 ∧ v 3 = nI x) ∧ (∃ x, 1 ≤ x ∧ x < 100 ∧ v 4 = nI x) ∧ ∃ t, t ≤ 14 ∧ v 14 = nI t ∧ ∀ i, i < t → txOk v i
/-- the minute is K at most, and no more have crossed than could -/
def tmO (v : WV) (K : Nat) : Prop := ∃ k c, v 2 = nI k ∧ v 10 = nI c ∧ c ≤ 2 * k ∧ k ≤ K
