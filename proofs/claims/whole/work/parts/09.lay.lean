/-! the heap as a function of numbers: cell k holds the numbers S k, in a form that k alone says -/
abbrev SS : Type := Nat → Nat → Int32
def kref (Θ : Th) (c : Int32) : Value := .ref (tb Θ + (14 + c.toNatClampNeg))
def tref (Θ : Th) (c : Int32) : Option Nat := if c < 0 then none else some (tb Θ + (86 + 3 * c.toNatClampNeg))
def cellB0 (Θ : Th) (f : Nat → Int32) : List va_E := [.inr (11, [.ref (tb Θ + 1), .ref (tb Θ + 20), .ref (tb Θ + 42), .ref (tb Θ + 64), .int (f 4), .ref (tb Θ + 2), .ref (tb Θ + 3), .ref (tb Θ + 5), .ref (tb Θ + 6), .ref (tb Θ + 7), .ref (tb Θ + 8), .ref (tb Θ + 9), .ref (tb Θ + 10), .int (f 13), .ref (tb Θ + 11), .ref (tb Θ + 12), .ref (tb Θ + 13)]),
  rA Θ 3 6 (fun j => if j < 6 then some (tb Θ + (14 + j)) else none),
  rA Θ 6 15 (fun j => if j < 15 then some (tb Θ + (86 + 3 * j)) else none),
  .inr (7, [.ref (tb Θ + 4), .int (f 1), .int (f 2), .int (f 3), .int (f 4), va_rf (tref Θ (f 5))]),
  iA Θ 0 96 f,
  rA Θ 5 4 (fun j => if j < 4 then some (tb Θ + (131 + 2 * j)) else none),
  iA Θ 0 5 f,
  rA Θ 4 5 (fun j => if j < 5 then some (tb Θ + (139 + 4 * j)) else none),
  rA Θ 5 5 (fun j => if j < 5 then some (tb Θ + (141 + 4 * j)) else none),
  iA Θ 0 5 f,
  iA Θ 0 60 f,
  iA Θ 0 9 f,
  iA Θ 0 512 f,
  iA Θ 0 9 f,
  .inr (3, []),
  .inr (2, []),
  .inr (1, []),
  .inr (9, []),
  .inr (6, []),
  .inr (0, [])]
def cellB1 (Θ : Th) (f : Nat → Int32) : List va_E := [.inr (10, [.ref (tb Θ + 21), .int (f 1), .int (f 2), .int (f 3), .int (f 4), .int (f 5), .int (f 6), .int (f 7), .int (f 8), .ref (tb Θ + 22), .int (f 10), .int (f 11), .ref (tb Θ + 23), .int (f 13)]),
  rA Θ 4 9 (fun j => if j < 9 then some (tb Θ + (24 + 2 * j)) else none),
  iA Θ 0 4 f,
  rA Θ 6 3 (fun j => tref Θ (f j)),
  .inr (4, [kref Θ (f 0), .int (f 1), .int (f 2), .ref (tb Θ + 25)]),
  iA Θ 0 6 f,
  .inr (4, [kref Θ (f 0), .int (f 1), .int (f 2), .ref (tb Θ + 27)]),
  iA Θ 0 6 f,
  .inr (4, [kref Θ (f 0), .int (f 1), .int (f 2), .ref (tb Θ + 29)]),
  iA Θ 0 6 f,
  .inr (4, [kref Θ (f 0), .int (f 1), .int (f 2), .ref (tb Θ + 31)]),
  iA Θ 0 6 f,
  .inr (4, [kref Θ (f 0), .int (f 1), .int (f 2), .ref (tb Θ + 33)]),
  iA Θ 0 6 f,
  .inr (4, [kref Θ (f 0), .int (f 1), .int (f 2), .ref (tb Θ + 35)]),
  iA Θ 0 6 f,
  .inr (4, [kref Θ (f 0), .int (f 1), .int (f 2), .ref (tb Θ + 37)]),
  iA Θ 0 6 f,
  .inr (4, [kref Θ (f 0), .int (f 1), .int (f 2), .ref (tb Θ + 39)]),
  iA Θ 0 6 f,
  .inr (4, [kref Θ (f 0), .int (f 1), .int (f 2), .ref (tb Θ + 41)]),
  iA Θ 0 6 f]
def cellB2 (Θ : Th) (f : Nat → Int32) : List va_E := [.inr (10, [.ref (tb Θ + 43), .int (f 1), .int (f 2), .int (f 3), .int (f 4), .int (f 5), .int (f 6), .int (f 7), .int (f 8), .ref (tb Θ + 44), .int (f 10), .int (f 11), .ref (tb Θ + 45), .int (f 13)]),
  rA Θ 4 9 (fun j => if j < 9 then some (tb Θ + (46 + 2 * j)) else none),
  iA Θ 0 4 f,
  rA Θ 6 3 (fun j => tref Θ (f j)),
  .inr (4, [kref Θ (f 0), .int (f 1), .int (f 2), .ref (tb Θ + 47)]),
  iA Θ 0 6 f,
  .inr (4, [kref Θ (f 0), .int (f 1), .int (f 2), .ref (tb Θ + 49)]),
  iA Θ 0 6 f,
  .inr (4, [kref Θ (f 0), .int (f 1), .int (f 2), .ref (tb Θ + 51)]),
  iA Θ 0 6 f,
  .inr (4, [kref Θ (f 0), .int (f 1), .int (f 2), .ref (tb Θ + 53)]),
  iA Θ 0 6 f,
  .inr (4, [kref Θ (f 0), .int (f 1), .int (f 2), .ref (tb Θ + 55)]),
  iA Θ 0 6 f,
  .inr (4, [kref Θ (f 0), .int (f 1), .int (f 2), .ref (tb Θ + 57)]),
  iA Θ 0 6 f,
  .inr (4, [kref Θ (f 0), .int (f 1), .int (f 2), .ref (tb Θ + 59)]),
  iA Θ 0 6 f,
  .inr (4, [kref Θ (f 0), .int (f 1), .int (f 2), .ref (tb Θ + 61)]),
  iA Θ 0 6 f,
  .inr (4, [kref Θ (f 0), .int (f 1), .int (f 2), .ref (tb Θ + 63)]),
  iA Θ 0 6 f]
def cellB3 (Θ : Th) (f : Nat → Int32) : List va_E := [.inr (10, [.ref (tb Θ + 65), .int (f 1), .int (f 2), .int (f 3), .int (f 4), .int (f 5), .int (f 6), .int (f 7), .int (f 8), .ref (tb Θ + 66), .int (f 10), .int (f 11), .ref (tb Θ + 67), .int (f 13)]),
  rA Θ 4 9 (fun j => if j < 9 then some (tb Θ + (68 + 2 * j)) else none),
  iA Θ 0 4 f,
  rA Θ 6 3 (fun j => tref Θ (f j)),
  .inr (4, [kref Θ (f 0), .int (f 1), .int (f 2), .ref (tb Θ + 69)]),
  iA Θ 0 6 f,
  .inr (4, [kref Θ (f 0), .int (f 1), .int (f 2), .ref (tb Θ + 71)]),
  iA Θ 0 6 f,
  .inr (4, [kref Θ (f 0), .int (f 1), .int (f 2), .ref (tb Θ + 73)]),
  iA Θ 0 6 f,
  .inr (4, [kref Θ (f 0), .int (f 1), .int (f 2), .ref (tb Θ + 75)]),
  iA Θ 0 6 f,
  .inr (4, [kref Θ (f 0), .int (f 1), .int (f 2), .ref (tb Θ + 77)]),
  iA Θ 0 6 f,
  .inr (4, [kref Θ (f 0), .int (f 1), .int (f 2), .ref (tb Θ + 79)]),
  iA Θ 0 6 f,
  .inr (4, [kref Θ (f 0), .int (f 1), .int (f 2), .ref (tb Θ + 81)]),
  iA Θ 0 6 f,
  .inr (4, [kref Θ (f 0), .int (f 1), .int (f 2), .ref (tb Θ + 83)]),
  iA Θ 0 6 f,
  .inr (4, [kref Θ (f 0), .int (f 1), .int (f 2), .ref (tb Θ + 85)]),
  iA Θ 0 6 f]
def cellB4 (Θ : Th) (f : Nat → Int32) : List va_E := [.inr (8, [.int (f 0), .int (f 1), .int (f 2), .int (f 3), .ref (tb Θ + 87), .ref (tb Θ + 88)]),
  iA Θ 0 96 f,
  iA Θ 0 48 f,
  .inr (8, [.int (f 0), .int (f 1), .int (f 2), .int (f 3), .ref (tb Θ + 90), .ref (tb Θ + 91)]),
  iA Θ 0 96 f,
  iA Θ 0 48 f,
  .inr (8, [.int (f 0), .int (f 1), .int (f 2), .int (f 3), .ref (tb Θ + 93), .ref (tb Θ + 94)]),
  iA Θ 0 96 f,
  iA Θ 0 48 f,
  .inr (8, [.int (f 0), .int (f 1), .int (f 2), .int (f 3), .ref (tb Θ + 96), .ref (tb Θ + 97)]),
  iA Θ 0 96 f,
  iA Θ 0 48 f,
  .inr (8, [.int (f 0), .int (f 1), .int (f 2), .int (f 3), .ref (tb Θ + 99), .ref (tb Θ + 100)]),
  iA Θ 0 96 f,
  iA Θ 0 48 f,
  .inr (8, [.int (f 0), .int (f 1), .int (f 2), .int (f 3), .ref (tb Θ + 102), .ref (tb Θ + 103)]),
  iA Θ 0 96 f,
  iA Θ 0 48 f,
  .inr (8, [.int (f 0), .int (f 1), .int (f 2), .int (f 3), .ref (tb Θ + 105), .ref (tb Θ + 106)]),
  iA Θ 0 96 f,
  iA Θ 0 48 f,
  .inr (8, [.int (f 0), .int (f 1), .int (f 2), .int (f 3), .ref (tb Θ + 108), .ref (tb Θ + 109)]),
  iA Θ 0 96 f,
  iA Θ 0 48 f,
  .inr (8, [.int (f 0), .int (f 1), .int (f 2), .int (f 3), .ref (tb Θ + 111), .ref (tb Θ + 112)]),
  iA Θ 0 96 f,
  iA Θ 0 48 f,
  .inr (8, [.int (f 0), .int (f 1), .int (f 2), .int (f 3), .ref (tb Θ + 114), .ref (tb Θ + 115)]),
  iA Θ 0 96 f,
  iA Θ 0 48 f,
  .inr (8, [.int (f 0), .int (f 1), .int (f 2), .int (f 3), .ref (tb Θ + 117), .ref (tb Θ + 118)]),
  iA Θ 0 96 f,
  iA Θ 0 48 f,
  .inr (8, [.int (f 0), .int (f 1), .int (f 2), .int (f 3), .ref (tb Θ + 120), .ref (tb Θ + 121)]),
  iA Θ 0 96 f,
  iA Θ 0 48 f,
  .inr (8, [.int (f 0), .int (f 1), .int (f 2), .int (f 3), .ref (tb Θ + 123), .ref (tb Θ + 124)]),
  iA Θ 0 96 f,
  iA Θ 0 48 f,
  .inr (8, [.int (f 0), .int (f 1), .int (f 2), .int (f 3), .ref (tb Θ + 126), .ref (tb Θ + 127)]),
  iA Θ 0 96 f,
  iA Θ 0 48 f,
  .inr (8, [.int (f 0), .int (f 1), .int (f 2), .int (f 3), .ref (tb Θ + 129), .ref (tb Θ + 130)]),
  iA Θ 0 96 f,
  iA Θ 0 48 f]
def cellB5 (Θ : Th) (f : Nat → Int32) : List va_E := [.inr (5, [.int (f 0), .int (f 1), .ref (tb Θ + 132)]),
  iA Θ 0 24 f,
  .inr (5, [.int (f 0), .int (f 1), .ref (tb Θ + 134)]),
  iA Θ 0 24 f,
  .inr (5, [.int (f 0), .int (f 1), .ref (tb Θ + 136)]),
  iA Θ 0 24 f,
  .inr (5, [.int (f 0), .int (f 1), .ref (tb Θ + 138)]),
  iA Θ 0 24 f,
  .inr (4, [kref Θ (f 0), .int (f 1), .int (f 2), .ref (tb Θ + 140)]),
  iA Θ 0 6 f,
  .inr (5, [.int (f 0), .int (f 1), .ref (tb Θ + 142)]),
  iA Θ 0 24 f,
  .inr (4, [kref Θ (f 0), .int (f 1), .int (f 2), .ref (tb Θ + 144)]),
  iA Θ 0 6 f,
  .inr (5, [.int (f 0), .int (f 1), .ref (tb Θ + 146)]),
  iA Θ 0 24 f,
  .inr (4, [kref Θ (f 0), .int (f 1), .int (f 2), .ref (tb Θ + 148)]),
  iA Θ 0 6 f,
  .inr (5, [.int (f 0), .int (f 1), .ref (tb Θ + 150)]),
  iA Θ 0 24 f,
  .inr (4, [kref Θ (f 0), .int (f 1), .int (f 2), .ref (tb Θ + 152)]),
  iA Θ 0 6 f,
  .inr (5, [.int (f 0), .int (f 1), .ref (tb Θ + 154)]),
  iA Θ 0 24 f,
  .inr (4, [kref Θ (f 0), .int (f 1), .int (f 2), .ref (tb Θ + 156)]),
  iA Θ 0 6 f,
  .inr (5, [.int (f 0), .int (f 1), .ref (tb Θ + 158)]),
  iA Θ 0 24 f]
def cellB6 (Θ : Th) (f : Nat → Int32) : List va_E := [.inr (12, [.ref (tb Θ + 160), .ref (tb Θ + 161), .ref (tb Θ + 162), .int (f 3), .ref (tb Θ + 163), .ref (tb Θ + 164), .ref (tb Θ + 165), .ref (tb Θ + 166), .int (f 8), .int (f 9), .int (f 10), .int (f 11), .int (f 12), .int (f 13), .int (f 14), .ref (tb Θ + 167), .ref (tb Θ + 168), .ref (tb Θ + 169), .int (f 18), .int (f 19), .ref (tb Θ + 170), .int (f 21), .ref (tb Θ + 171), .ref (tb Θ + 172), .ref (tb Θ + 173), .ref (tb Θ + 174), .ref (tb Θ + 175), .ref (tb Θ + 176), .ref (tb Θ + 177), .ref (tb Θ + 178), .ref (tb Θ + 179), .ref (tb Θ + 180), .ref (tb Θ + 181), .ref (tb Θ + 182), .int (f 34)]),
  iA Θ 0 1468 f,
  iA Θ 0 1468 f,
  iA Θ 0 1468 f,
  iA Θ 0 1468 f,
  iA Θ 2 81 f,
  iA Θ 0 9 f,
  iA Θ 0 96 f,
  iA Θ 1 13 f,
  iA Θ 0 4 f,
  iA Θ 0 96 f,
  iA Θ 0 96 f,
  iA Θ 2 10 f,
  iA Θ 0 96 f,
  iA Θ 0 4 f,
  iA Θ 0 4 f,
  iA Θ 0 4 f,
  iA Θ 0 96 f,
  iA Θ 0 5 f,
  iA Θ 0 5 f,
  iA Θ 0 5 f,
  iA Θ 0 120 f,
  iA Θ 0 24 f,
  iA Θ 0 60 f]
def cellOf (Θ : Th) (k : Nat) (f : Nat → Int32) : va_E := if k < 20 then (cellB0 Θ f).getD (k - 0) (.inr (99, [])) else if k < 42 then (cellB1 Θ f).getD (k - 20) (.inr (99, [])) else if k < 64 then (cellB2 Θ f).getD (k - 42) (.inr (99, [])) else if k < 86 then (cellB3 Θ f).getD (k - 64) (.inr (99, [])) else if k < 131 then (cellB4 Θ f).getD (k - 86) (.inr (99, [])) else if k < 159 then (cellB5 Θ f).getD (k - 131) (.inr (99, [])) else if k < 183 then (cellB6 Θ f).getD (k - 159) (.inr (99, [])) else .inr (99, [])
def lay (Θ : Th) (S : SS) : HP := fun k => cellOf Θ k (S k)
def wr (S : SS) (k j : Nat) (v : Int32) : SS := va_up S k (upd (S k) j v)
theorem lay_up {Θ : Th} {S : SS} {k : Nat} {g : Nat → Int32} : va_up (lay Θ S) k (cellOf Θ k g) = lay Θ (va_up S k g) := by
  funext j
  unfold lay va_up
  by_cases h : j = k
  · subst h
    simp
  · simp [h]
theorem sh_0 {Θ : Th} (f : Nat → Int32) : cellOf Θ 0 f = .inr (11, [.ref (tb Θ + 1), .ref (tb Θ + 20), .ref (tb Θ + 42), .ref (tb Θ + 64), .int (f 4), .ref (tb Θ + 2), .ref (tb Θ + 3), .ref (tb Θ + 5), .ref (tb Θ + 6), .ref (tb Θ + 7), .ref (tb Θ + 8), .ref (tb Θ + 9), .ref (tb Θ + 10), .int (f 13), .ref (tb Θ + 11), .ref (tb Θ + 12), .ref (tb Θ + 13)]) := rfl
theorem sh_1 {Θ : Th} (f : Nat → Int32) : cellOf Θ 1 f = rA Θ 3 6 (fun j => if j < 6 then some (tb Θ + (14 + j)) else none) := rfl
theorem sh_2 {Θ : Th} (f : Nat → Int32) : cellOf Θ 2 f = rA Θ 6 15 (fun j => if j < 15 then some (tb Θ + (86 + 3 * j)) else none) := rfl
theorem sh_3 {Θ : Th} (f : Nat → Int32) : cellOf Θ 3 f = .inr (7, [.ref (tb Θ + 4), .int (f 1), .int (f 2), .int (f 3), .int (f 4), va_rf (tref Θ (f 5))]) := rfl
theorem sh_4 {Θ : Th} (f : Nat → Int32) : cellOf Θ 4 f = iA Θ 0 96 f := rfl
theorem sh_5 {Θ : Th} (f : Nat → Int32) : cellOf Θ 5 f = rA Θ 5 4 (fun j => if j < 4 then some (tb Θ + (131 + 2 * j)) else none) := rfl
theorem sh_6 {Θ : Th} (f : Nat → Int32) : cellOf Θ 6 f = iA Θ 0 5 f := rfl
theorem sh_7 {Θ : Th} (f : Nat → Int32) : cellOf Θ 7 f = rA Θ 4 5 (fun j => if j < 5 then some (tb Θ + (139 + 4 * j)) else none) := rfl
theorem sh_8 {Θ : Th} (f : Nat → Int32) : cellOf Θ 8 f = rA Θ 5 5 (fun j => if j < 5 then some (tb Θ + (141 + 4 * j)) else none) := rfl
theorem sh_9 {Θ : Th} (f : Nat → Int32) : cellOf Θ 9 f = iA Θ 0 5 f := rfl
theorem sh_10 {Θ : Th} (f : Nat → Int32) : cellOf Θ 10 f = iA Θ 0 60 f := rfl
theorem sh_11 {Θ : Th} (f : Nat → Int32) : cellOf Θ 11 f = iA Θ 0 9 f := rfl
theorem sh_12 {Θ : Th} (f : Nat → Int32) : cellOf Θ 12 f = iA Θ 0 512 f := rfl
theorem sh_13 {Θ : Th} (f : Nat → Int32) : cellOf Θ 13 f = iA Θ 0 9 f := rfl
theorem sh_159 {Θ : Th} (f : Nat → Int32) : cellOf Θ 159 f = .inr (12, [.ref (tb Θ + 160), .ref (tb Θ + 161), .ref (tb Θ + 162), .int (f 3), .ref (tb Θ + 163), .ref (tb Θ + 164), .ref (tb Θ + 165), .ref (tb Θ + 166), .int (f 8), .int (f 9), .int (f 10), .int (f 11), .int (f 12), .int (f 13), .int (f 14), .ref (tb Θ + 167), .ref (tb Θ + 168), .ref (tb Θ + 169), .int (f 18), .int (f 19), .ref (tb Θ + 170), .int (f 21), .ref (tb Θ + 171), .ref (tb Θ + 172), .ref (tb Θ + 173), .ref (tb Θ + 174), .ref (tb Θ + 175), .ref (tb Θ + 176), .ref (tb Θ + 177), .ref (tb Θ + 178), .ref (tb Θ + 179), .ref (tb Θ + 180), .ref (tb Θ + 181), .ref (tb Θ + 182), .int (f 34)]) := rfl
theorem sh_160 {Θ : Th} (f : Nat → Int32) : cellOf Θ 160 f = iA Θ 0 1468 f := rfl
theorem sh_161 {Θ : Th} (f : Nat → Int32) : cellOf Θ 161 f = iA Θ 0 1468 f := rfl
theorem sh_162 {Θ : Th} (f : Nat → Int32) : cellOf Θ 162 f = iA Θ 0 1468 f := rfl
theorem sh_163 {Θ : Th} (f : Nat → Int32) : cellOf Θ 163 f = iA Θ 0 1468 f := rfl
theorem sh_164 {Θ : Th} (f : Nat → Int32) : cellOf Θ 164 f = iA Θ 2 81 f := rfl
theorem sh_165 {Θ : Th} (f : Nat → Int32) : cellOf Θ 165 f = iA Θ 0 9 f := rfl
theorem sh_166 {Θ : Th} (f : Nat → Int32) : cellOf Θ 166 f = iA Θ 0 96 f := rfl
theorem sh_167 {Θ : Th} (f : Nat → Int32) : cellOf Θ 167 f = iA Θ 1 13 f := rfl
theorem sh_168 {Θ : Th} (f : Nat → Int32) : cellOf Θ 168 f = iA Θ 0 4 f := rfl
theorem sh_169 {Θ : Th} (f : Nat → Int32) : cellOf Θ 169 f = iA Θ 0 96 f := rfl
theorem sh_170 {Θ : Th} (f : Nat → Int32) : cellOf Θ 170 f = iA Θ 0 96 f := rfl
theorem sh_171 {Θ : Th} (f : Nat → Int32) : cellOf Θ 171 f = iA Θ 2 10 f := rfl
theorem sh_172 {Θ : Th} (f : Nat → Int32) : cellOf Θ 172 f = iA Θ 0 96 f := rfl
theorem sh_173 {Θ : Th} (f : Nat → Int32) : cellOf Θ 173 f = iA Θ 0 4 f := rfl
theorem sh_174 {Θ : Th} (f : Nat → Int32) : cellOf Θ 174 f = iA Θ 0 4 f := rfl
theorem sh_175 {Θ : Th} (f : Nat → Int32) : cellOf Θ 175 f = iA Θ 0 4 f := rfl
theorem sh_176 {Θ : Th} (f : Nat → Int32) : cellOf Θ 176 f = iA Θ 0 96 f := rfl
theorem sh_177 {Θ : Th} (f : Nat → Int32) : cellOf Θ 177 f = iA Θ 0 5 f := rfl
theorem sh_178 {Θ : Th} (f : Nat → Int32) : cellOf Θ 178 f = iA Θ 0 5 f := rfl
theorem sh_179 {Θ : Th} (f : Nat → Int32) : cellOf Θ 179 f = iA Θ 0 5 f := rfl
theorem sh_180 {Θ : Th} (f : Nat → Int32) : cellOf Θ 180 f = iA Θ 0 120 f := rfl
theorem sh_181 {Θ : Th} (f : Nat → Int32) : cellOf Θ 181 f = iA Θ 0 24 f := rfl
theorem sh_182 {Θ : Th} (f : Nat → Int32) : cellOf Θ 182 f = iA Θ 0 60 f := rfl
def isW (w : Nat) : Prop := w = 20 ∨ w = 42 ∨ w = 64
def isP (k : Nat) : Prop := (∃ w i : Nat, isW w ∧ i < 9 ∧ k = w + 4 + 2 * i) ∨ ∃ i : Nat, i < 5 ∧ k = 139 + 4 * i
def isR (k : Nat) : Prop := (∃ i : Nat, i < 4 ∧ k = 131 + 2 * i) ∨ ∃ i : Nat, i < 5 ∧ k = 141 + 4 * i
def isT (k : Nat) : Prop := ∃ i : Nat, i < 15 ∧ k = 86 + 3 * i
theorem isW20 : isW 20 := Or.inl rfl
theorem isW42 : isW 42 := Or.inr (Or.inl rfl)
theorem isW64 : isW 64 := Or.inr (Or.inr rfl)
theorem isW.lt {w : Nat} (h : isW w) : w + 22 < 183 := by rcases h with rfl | rfl | rfl <;> decide
theorem isW.p {w i : Nat} (h : isW w) (hi : i < 9) : isP (w + 4 + 2 * i) := Or.inl ⟨w, i, h, hi, rfl⟩
theorem isP.lt {k : Nat} (h : isP k) : k + 1 < 183 := by
  rcases h with ⟨w, i, hw, hi, rfl⟩ | ⟨i, hi, rfl⟩
  · have := hw.lt
    rcases hw with rfl | rfl | rfl <;> omega
  · omega
theorem isR.lt {k : Nat} (h : isR k) : k + 1 < 183 := by
  rcases h with ⟨i, hi, rfl⟩ | ⟨i, hi, rfl⟩ <;> omega
theorem isT.lt {k : Nat} (h : isT k) : k + 2 < 183 := by
  obtain ⟨i, hi, rfl⟩ := h
  omega
theorem lt9 {P : Nat → Prop} (h0 : P 0) (h1 : P 1) (h2 : P 2) (h3 : P 3) (h4 : P 4) (h5 : P 5) (h6 : P 6) (h7 : P 7) (h8 : P 8) {i : Nat} (hi : i < 9) : P i := by
  match i, hi with
  | 0, _ => exact h0
  | 1, _ => exact h1
  | 2, _ => exact h2
  | 3, _ => exact h3
  | 4, _ => exact h4
  | 5, _ => exact h5
  | 6, _ => exact h6
  | 7, _ => exact h7
  | 8, _ => exact h8
  | k + 9, h => exact absurd h (by omega)
theorem lt5 {P : Nat → Prop} (h0 : P 0) (h1 : P 1) (h2 : P 2) (h3 : P 3) (h4 : P 4) {i : Nat} (hi : i < 5) : P i := by
  match i, hi with
  | 0, _ => exact h0
  | 1, _ => exact h1
  | 2, _ => exact h2
  | 3, _ => exact h3
  | 4, _ => exact h4
  | k + 5, h => exact absurd h (by omega)
theorem lt4 {P : Nat → Prop} (h0 : P 0) (h1 : P 1) (h2 : P 2) (h3 : P 3) {i : Nat} (hi : i < 4) : P i := by
  match i, hi with
  | 0, _ => exact h0
  | 1, _ => exact h1
  | 2, _ => exact h2
  | 3, _ => exact h3
  | k + 4, h => exact absurd h (by omega)
theorem lt6 {P : Nat → Prop} (h0 : P 0) (h1 : P 1) (h2 : P 2) (h3 : P 3) (h4 : P 4) (h5 : P 5) {i : Nat} (hi : i < 6) : P i := by
  match i, hi with
  | 0, _ => exact h0
  | 1, _ => exact h1
  | 2, _ => exact h2
  | 3, _ => exact h3
  | 4, _ => exact h4
  | 5, _ => exact h5
  | k + 6, h => exact absurd h (by omega)
theorem lt15 {P : Nat → Prop} (h0 : P 0) (h1 : P 1) (h2 : P 2) (h3 : P 3) (h4 : P 4) (h5 : P 5) (h6 : P 6) (h7 : P 7) (h8 : P 8) (h9 : P 9) (h10 : P 10) (h11 : P 11) (h12 : P 12) (h13 : P 13) (h14 : P 14) {i : Nat} (hi : i < 15) : P i := by
  match i, hi with
  | 0, _ => exact h0
  | 1, _ => exact h1
  | 2, _ => exact h2
  | 3, _ => exact h3
  | 4, _ => exact h4
  | 5, _ => exact h5
  | 6, _ => exact h6
  | 7, _ => exact h7
  | 8, _ => exact h8
  | 9, _ => exact h9
  | 10, _ => exact h10
  | 11, _ => exact h11
  | 12, _ => exact h12
  | 13, _ => exact h13
  | 14, _ => exact h14
  | k + 15, h => exact absurd h (by omega)
theorem sh_W {Θ : Th} {w : Nat} (h : isW w) (f : Nat → Int32) : cellOf Θ w f = .inr (10, [.ref (tb Θ + (w + 1)), .int (f 1), .int (f 2), .int (f 3), .int (f 4), .int (f 5), .int (f 6), .int (f 7), .int (f 8), .ref (tb Θ + (w + 2)), .int (f 10), .int (f 11), .ref (tb Θ + (w + 3)), .int (f 13)]) := by
  rcases h with rfl | rfl | rfl <;> rfl
theorem sh_Wc {Θ : Th} {w : Nat} (h : isW w) (f : Nat → Int32) : cellOf Θ (w + 1) f = rA Θ 4 9 (fun j => if j < 9 then some (tb Θ + (w + 4 + 2 * j)) else none) := by
  rcases h with rfl | rfl | rfl <;> rfl
theorem sh_Wt {Θ : Th} {w : Nat} (h : isW w) (f : Nat → Int32) : cellOf Θ (w + 2) f = iA Θ 0 4 f := by
  rcases h with rfl | rfl | rfl <;> rfl
theorem sh_Wl {Θ : Th} {w : Nat} (h : isW w) (f : Nat → Int32) : cellOf Θ (w + 3) f = rA Θ 6 3 (fun j => tref Θ (f j)) := by
  rcases h with rfl | rfl | rfl <;> rfl
theorem sh_P {Θ : Th} {k : Nat} (h : isP k) (f : Nat → Int32) : cellOf Θ k f = .inr (4, [kref Θ (f 0), .int (f 1), .int (f 2), .ref (tb Θ + (k + 1))]) := by
  rcases h with ⟨w, i, hw, hi, rfl⟩ | ⟨i, hi, rfl⟩
  · rcases hw with rfl | rfl | rfl <;> exact lt9 (P := fun i => cellOf Θ (_ + 4 + 2 * i) f = .inr (4, [kref Θ (f 0), .int (f 1), .int (f 2), .ref (tb Θ + (_ + 4 + 2 * i + 1))])) rfl rfl rfl rfl rfl rfl rfl rfl rfl hi
  · exact lt5 (P := fun i => cellOf Θ (139 + 4 * i) f = .inr (4, [kref Θ (f 0), .int (f 1), .int (f 2), .ref (tb Θ + (139 + 4 * i + 1))])) rfl rfl rfl rfl rfl hi
theorem sh_Pv {Θ : Th} {k : Nat} (h : isP k) (f : Nat → Int32) : cellOf Θ (k + 1) f = iA Θ 0 6 f := by
  rcases h with ⟨w, i, hw, hi, rfl⟩ | ⟨i, hi, rfl⟩
  · rcases hw with rfl | rfl | rfl <;> exact lt9 (P := fun i => cellOf Θ (_ + 4 + 2 * i + 1) f = iA Θ 0 6 f) rfl rfl rfl rfl rfl rfl rfl rfl rfl hi
  · exact lt5 (P := fun i => cellOf Θ (139 + 4 * i + 1) f = iA Θ 0 6 f) rfl rfl rfl rfl rfl hi
theorem sh_R {Θ : Th} {k : Nat} (h : isR k) (f : Nat → Int32) : cellOf Θ k f = .inr (5, [.int (f 0), .int (f 1), .ref (tb Θ + (k + 1))]) := by
  rcases h with ⟨i, hi, rfl⟩ | ⟨i, hi, rfl⟩
  · exact lt4 (P := fun i => cellOf Θ (131 + 2 * i) f = .inr (5, [.int (f 0), .int (f 1), .ref (tb Θ + (131 + 2 * i + 1))])) rfl rfl rfl rfl hi
  · exact lt5 (P := fun i => cellOf Θ (141 + 4 * i) f = .inr (5, [.int (f 0), .int (f 1), .ref (tb Θ + (141 + 4 * i + 1))])) rfl rfl rfl rfl rfl hi
theorem sh_Rp {Θ : Th} {k : Nat} (h : isR k) (f : Nat → Int32) : cellOf Θ (k + 1) f = iA Θ 0 24 f := by
  rcases h with ⟨i, hi, rfl⟩ | ⟨i, hi, rfl⟩
  · exact lt4 (P := fun i => cellOf Θ (131 + 2 * i + 1) f = iA Θ 0 24 f) rfl rfl rfl rfl hi
  · exact lt5 (P := fun i => cellOf Θ (141 + 4 * i + 1) f = iA Θ 0 24 f) rfl rfl rfl rfl rfl hi
theorem sh_T {Θ : Th} {k : Nat} (h : isT k) (f : Nat → Int32) : cellOf Θ k f = .inr (8, [.int (f 0), .int (f 1), .int (f 2), .int (f 3), .ref (tb Θ + (k + 1)), .ref (tb Θ + (k + 2))]) := by
  obtain ⟨i, hi, rfl⟩ := h
  exact lt15 (P := fun i => cellOf Θ (86 + 3 * i) f = .inr (8, [.int (f 0), .int (f 1), .int (f 2), .int (f 3), .ref (tb Θ + (86 + 3 * i + 1)), .ref (tb Θ + (86 + 3 * i + 2))])) rfl rfl rfl rfl rfl rfl rfl rfl rfl rfl rfl rfl rfl rfl rfl hi
theorem sh_Tc {Θ : Th} {k : Nat} (h : isT k) (f : Nat → Int32) : cellOf Θ (k + 1) f = iA Θ 0 96 f := by
  obtain ⟨i, hi, rfl⟩ := h
  exact lt15 (P := fun i => cellOf Θ (86 + 3 * i + 1) f = iA Θ 0 96 f) rfl rfl rfl rfl rfl rfl rfl rfl rfl rfl rfl rfl rfl rfl rfl hi
theorem sh_Ts {Θ : Th} {k : Nat} (h : isT k) (f : Nat → Int32) : cellOf Θ (k + 2) f = iA Θ 0 48 f := by
  obtain ⟨i, hi, rfl⟩ := h
  exact lt15 (P := fun i => cellOf Θ (86 + 3 * i + 2) f = iA Θ 0 48 f) rfl rfl rfl rfl rfl rfl rfl rfl rfl rfl rfl rfl rfl rfl rfl hi
def kci (c : Nat) : Nat := [3, 2, 1, 9, 6, 0].getD c 3
theorem sh_K {Θ : Th} {c : Nat} (h : c < 6) (f : Nat → Int32) : cellOf Θ (14 + c) f = .inr (kci c, []) := lt6 (P := fun c => cellOf Θ (14 + c) f = .inr (kci c, [])) rfl rfl rfl rfl rfl rfl h
section Lay
variable {Θ : Th} {d mc ms : Nat} {y : MethodName} {cc : ByteArray} {nL : Nat} {ret : Option FieldType} {cl sl : Nat} {S : SS} {pc pc' : Nat} {ls : LV} {st : List Value} {Q : QT}
theorem L_get {i ci j k : Nat} {t : FieldType} {fin : Bool} {fs : (Nat → Int32) → List Value} {v : Value} (hF : FA y.cls i ci j t fin) (hd : Dc cc pc (.getfield i) 3 pc') (hk : k < 183) (hO : ∀ f, cellOf Θ k f = .inr (ci, fs f)) (hv : (fs (S k))[j]? = some v) (K : E Θ d mc ms y cc nL ret cl sl 183 (lay Θ S) pc' ls (v :: st) Q) : E Θ d mc ms y cc nL ret cl sl 183 (lay Θ S) pc ls (.ref (tb Θ + k) :: st) Q := E_get hF hd hk (hO (S k)) hv K
theorem L_put {i ci j k : Nat} {t : FieldType} {fs : (Nat → Int32) → List Value} {v : Value} {x0 : Int32} (hF : FA y.cls i ci j t false) (hd : Dc cc pc (.putfield i) 3 pc') (hk : k < 183) (hO : ∀ f, cellOf Θ k f = .inr (ci, fs f)) (hnr : narrow t v = v) (hft : fits t v = true) (hl0 : j < (fs (S k)).length) (hset : (fs (S k)).set j v = fs (upd (S k) j x0)) (K : E Θ d mc ms y cc nL ret cl sl 183 (lay Θ (wr S k j x0)) pc' ls st Q) : E Θ d mc ms y cc nL ret cl sl 183 (lay Θ S) pc ls (v :: .ref (tb Θ + k) :: st) Q := by
  refine E_put hF hd hk (hO (S k)) hnr hft hl0 ?_
  rw [hset, ← hO, lay_up]
  exact K
theorem L_puti {i ci j k : Nat} {fs : (Nat → Int32) → List Value} {x0 : Int32} (hF : FA y.cls i ci j .int false) (hd : Dc cc pc (.putfield i) 3 pc') (hk : k < 183) (hO : ∀ f, cellOf Θ k f = .inr (ci, fs f)) (hl0 : j < (fs (S k)).length) (hset : (fs (S k)).set j (.int x0) = fs (upd (S k) j x0)) (K : E Θ d mc ms y cc nL ret cl sl 183 (lay Θ (wr S k j x0)) pc' ls st Q) : E Θ d mc ms y cc nL ret cl sl 183 (lay Θ S) pc ls (.int x0 :: .ref (tb Θ + k) :: st) Q := L_put hF hd hk hO rfl rfl hl0 hset K
theorem L_iald {k len j : Nat} {x : Int32} (hd : Dc cc pc (.iaload) 1 pc') (hk : k < 183) (hI : ∀ f, cellOf Θ k f = iA Θ 0 len f) (hx : x = nI j) (hj : j < len) (hlen : len < 2 ^ 31) (K : E Θ d mc ms y cc nL ret cl sl 183 (lay Θ S) pc' ls (.int (S k j) :: st) Q) : E Θ d mc ms y cc nL ret cl sl 183 (lay Θ S) pc ls (.int x :: .ref (tb Θ + k) :: st) Q := E_iald hd hk (hI (S k)) hx hj hlen K
theorem L_cald {k len j : Nat} {x : Int32} (hd : Dc cc pc (.caload) 1 pc') (hk : k < 183) (hI : ∀ f, cellOf Θ k f = iA Θ 1 len f) (hx : x = nI j) (hj : j < len) (hlen : len < 2 ^ 31) (K : E Θ d mc ms y cc nL ret cl sl 183 (lay Θ S) pc' ls (.int (S k j) :: st) Q) : E Θ d mc ms y cc nL ret cl sl 183 (lay Θ S) pc ls (.int x :: .ref (tb Θ + k) :: st) Q := E_cald hd hk (hI (S k)) hx hj hlen K
theorem L_zald {k len j : Nat} {x : Int32} (hd : Dc cc pc (.baload) 1 pc') (hk : k < 183) (hI : ∀ f, cellOf Θ k f = iA Θ 2 len f) (hx : x = nI j) (hj : j < len) (hlen : len < 2 ^ 31) (K : E Θ d mc ms y cc nL ret cl sl 183 (lay Θ S) pc' ls (.int (S k j) :: st) Q) : E Θ d mc ms y cc nL ret cl sl 183 (lay Θ S) pc ls (.int x :: .ref (tb Θ + k) :: st) Q := E_zald hd hk (hI (S k)) hx hj hlen K
theorem L_iast {k len j : Nat} {x x0 : Int32} (hd : Dc cc pc (.iastore) 1 pc') (hk : k < 183) (hI : ∀ f, cellOf Θ k f = iA Θ 0 len f) (hx : x = nI j) (hj : j < len) (hlen : len < 2 ^ 31) (K : E Θ d mc ms y cc nL ret cl sl 183 (lay Θ (wr S k j x0)) pc' ls st Q) : E Θ d mc ms y cc nL ret cl sl 183 (lay Θ S) pc ls (.int x0 :: .int x :: .ref (tb Θ + k) :: st) Q := by
  refine E_iast hd hk (hI (S k)) hx hj hlen ?_
  rw [← hI, lay_up]
  exact K
theorem L_zast {k len j : Nat} {x x0 : Int32} (hd : Dc cc pc (.bastore) 1 pc') (hk : k < 183) (hI : ∀ f, cellOf Θ k f = iA Θ 2 len f) (hx : x = nI j) (hj : j < len) (hlen : len < 2 ^ 31) (K : E Θ d mc ms y cc nL ret cl sl 183 (lay Θ (wr S k j (vp_nar .boolean x0))) pc' ls st Q) : E Θ d mc ms y cc nL ret cl sl 183 (lay Θ S) pc ls (.int x0 :: .int x :: .ref (tb Θ + k) :: st) Q := by
  refine E_zast hd hk (hI (S k)) hx hj hlen ?_
  rw [← hI, lay_up]
  exact K
theorem L_alen {k len t : Nat} {ty : FieldType} (hd : Dc cc pc .arraylength 1 pc') (hk : k < 183) (hI : ∀ f, cellOf Θ k f = iA Θ t len f) (ht : (tys Θ)[t]? = some (tk Θ t, ty)) (K : E Θ d mc ms y cc nL ret cl sl 183 (lay Θ S) pc' ls (.int (nI len) :: st) Q) : E Θ d mc ms y cc nL ret cl sl 183 (lay Θ S) pc ls (.ref (tb Θ + k) :: st) Q := E_alen hd hk (hI (S k)) ht K
theorem L_alenR {k len t : Nat} {g : (Nat → Int32) → Nat → Option Nat} {ty : FieldType} (hd : Dc cc pc .arraylength 1 pc') (hk : k < 183) (hI : ∀ f, cellOf Θ k f = rA Θ t len (g f)) (ht : (tys Θ)[t]? = some (tk Θ t, ty)) (K : E Θ d mc ms y cc nL ret cl sl 183 (lay Θ S) pc' ls (.int (nI len) :: st) Q) : E Θ d mc ms y cc nL ret cl sl 183 (lay Θ S) pc ls (.ref (tb Θ + k) :: st) Q := E_alenR hd hk (hI (S k)) ht K
theorem L_aald {k len t j q : Nat} {g : (Nat → Int32) → Nat → Option Nat} {x : Int32} {C0 : String} (hd : Dc cc pc .aaload 1 pc') (hk : k < 183) (hI : ∀ f, cellOf Θ k f = rA Θ t len (g f)) (ht : (tys Θ)[t]? = some (tk Θ t, .object C0)) (hx : x = nI j) (hj : j < len) (hlen : len < 2 ^ 31) (hq : g (S k) j = some q) (K : E Θ d mc ms y cc nL ret cl sl 183 (lay Θ S) pc' ls (.ref q :: st) Q) : E Θ d mc ms y cc nL ret cl sl 183 (lay Θ S) pc ls (.int x :: .ref (tb Θ + k) :: st) Q := E_aald hd hk (hI (S k)) ht hx hj hlen hq K
theorem L_aaldN {k len t j : Nat} {g : (Nat → Int32) → Nat → Option Nat} {x : Int32} {C0 : String} (hd : Dc cc pc .aaload 1 pc') (hk : k < 183) (hI : ∀ f, cellOf Θ k f = rA Θ t len (g f)) (ht : (tys Θ)[t]? = some (tk Θ t, .object C0)) (hx : x = nI j) (hj : j < len) (hlen : len < 2 ^ 31) (hq : g (S k) j = none) (K : E Θ d mc ms y cc nL ret cl sl 183 (lay Θ S) pc' ls (.null :: st) Q) : E Θ d mc ms y cc nL ret cl sl 183 (lay Θ S) pc ls (.int x :: .ref (tb Θ + k) :: st) Q := E_aaldN hd hk (hI (S k)) ht hx hj hlen hq K
theorem L_aast {k len t j ci kv : Nat} {g : (Nat → Int32) → Nat → Option Nat} {x x0 : Int32} {C0 : String} {r : vw_C} {fs : (Nat → Int32) → List Value} (hd : Dc cc pc .aastore 1 pc') (hk : k < 183) (hI : ∀ f, cellOf Θ k f = rA Θ t len (g f)) (ht : (tys Θ)[t]? = some (tk Θ t, .object C0)) (hx : x = nI j) (hj : j < len) (hlen : len < 2 ^ 31) (hkv : kv < 183) (hO : ∀ f, cellOf Θ kv f = .inr (ci, fs f)) (hc : vwCl[ci]? = some r) (has : C0 = r.1 ∨ Cond.castable r.1 C0 ∈ lw_tbl) (hset : va_up (g (S k)) j (some (tb Θ + kv)) = g (upd (S k) j x0)) (K : E Θ d mc ms y cc nL ret cl sl 183 (lay Θ (wr S k j x0)) pc' ls st Q) : E Θ d mc ms y cc nL ret cl sl 183 (lay Θ S) pc ls (.ref (tb Θ + kv) :: .int x :: .ref (tb Θ + k) :: st) Q := by
  refine E_aast hd hk (hI (S k)) ht hx hj hlen hkv (hO (S kv)) hc has ?_
  rw [hset, ← hI, lay_up]
  exact K
theorem L_aastN {k len t j : Nat} {g : (Nat → Int32) → Nat → Option Nat} {x x0 : Int32} {C0 : String} (hd : Dc cc pc .aastore 1 pc') (hk : k < 183) (hI : ∀ f, cellOf Θ k f = rA Θ t len (g f)) (ht : (tys Θ)[t]? = some (tk Θ t, .object C0)) (hx : x = nI j) (hj : j < len) (hlen : len < 2 ^ 31) (hset : va_up (g (S k)) j none = g (upd (S k) j x0)) (K : E Θ d mc ms y cc nL ret cl sl 183 (lay Θ (wr S k j x0)) pc' ls st Q) : E Θ d mc ms y cc nL ret cl sl 183 (lay Θ S) pc ls (.null :: .int x :: .ref (tb Θ + k) :: st) Q := by
  refine E_aastN hd hk (hI (S k)) ht hx hj hlen ?_
  rw [hset, ← hI, lay_up]
  exact K
theorem L_copy {i k0 k n0 n1 sp dp len : Nat} {x1 x2 x3 : Int32} (hw : Cond.methodLink y.cls i arraycopyName ∈ TG) (hd : Dc cc pc (.invokestatic i) 3 pc') (hst : (st.map fun v => v.category).sum ≤ 8) (hk0 : k0 < 183) (hI0 : ∀ f, cellOf Θ k0 f = iA Θ 0 n0 f) (hk : k < 183) (hI : ∀ f, cellOf Θ k f = iA Θ 0 n1 f) (e1 : x1 = nI sp) (e2 : x2 = nI dp) (e3 : x3 = nI len) (h4 : sp + len ≤ n0) (h5 : dp + len ≤ n1) (hb0 : n0 < 2 ^ 31) (hb1 : n1 < 2 ^ 31) (K : E Θ (d + 1) mc ms y cc nL ret cl sl 183 (lay Θ (va_up S k (va_cpy (S k0) (S k) sp dp len))) pc' ls st Q) : E Θ (d + 1) mc ms y cc nL ret cl sl 183 (lay Θ S) pc ls (.int x3 :: .int x2 :: .ref (tb Θ + k) :: .int x1 :: .ref (tb Θ + k0) :: st) Q := by
  refine E_copy hw w_acn w_acs w_si hd hst hk0 (hI0 (S k0)) hk (hI (S k)) e1 e2 e3 h4 h5 hb0 hb1 ?_
  rw [← hI, lay_up]
  exact K
end Lay
