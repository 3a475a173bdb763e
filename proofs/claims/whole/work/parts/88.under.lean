/-! a new object's numbers; the class's heap under way -/
def S0 : SS := fun k => if k = 3 then upd (fun _ => 0) 5 (-1) else if k = 20 ∨ k = 42 ∨ k = 64 then upd (upd (upd (fun _ => 0) 7 1) 8 40) 11 1 else if k = 23 ∨ k = 45 ∨ k = 67 then (fun _ => -1) else if 86 ≤ k ∧ k < 131 ∧ (k - 86) % 3 = 0 then upd (fun _ => 0) 0 (nI ((k - 86) / 3)) else if (131 ≤ k ∧ k < 139 ∧ (k - 131) % 2 = 0) ∨ (139 ≤ k ∧ k < 159 ∧ (k - 139) % 4 = 2) then upd (fun _ => 0) 0 (-1) else if k = 160 then upd (upd (upd (fun _ => 0) 0 1) 3 1) 4 40 else if k = 167 then upd (upd (upd (upd (upd (upd (upd (upd (upd (upd (upd (upd (upd (fun _ => 0) 0 115) 1 112) 2 101) 3 101) 4 99) 5 104) 6 102) 7 101) 8 101) 9 102) 10 105) 11 110) 12 101 else if k = 168 then upd (upd (upd (upd (fun _ => 0) 0 0) 1 6) 2 9) 3 13 else if k = 174 then upd (upd (upd (upd (fun _ => 0) 0 (-1)) 1 (-1)) 2 (-1)) 3 (-1) else fun _ => 0
def vr_ (Θ : Th) (x : Bool) (k : Nat) : Value := if x then .ref (tb Θ + k) else .null
def o11 (Θ : Th) (p : Nat) : List Value := [vr_ Θ (decide (1 ≤ p)) 1, vr_ Θ (decide (13 ≤ p)) 20, vr_ Θ (decide (14 ≤ p)) 42, vr_ Θ (decide (15 ≤ p)) 64, .int 0, vr_ Θ (decide (2 ≤ p)) 2, vr_ Θ (decide (3 ≤ p)) 3, vr_ Θ (decide (4 ≤ p)) 5, vr_ Θ (decide (5 ≤ p)) 6, vr_ Θ (decide (6 ≤ p)) 7, vr_ Θ (decide (7 ≤ p)) 8, vr_ Θ (decide (8 ≤ p)) 9, vr_ Θ (decide (9 ≤ p)) 10, .int 0, vr_ Θ (decide (10 ≤ p)) 11, vr_ Θ (decide (11 ≤ p)) 12, vr_ Θ (decide (12 ≤ p)) 13]
abbrev ar_1 (Θ : Th) (i : Nat) : va_E := rA Θ 3 6 (upto (fun j => tb Θ + (14 + j)) i)
abbrev ar_2 (Θ : Th) (i : Nat) : va_E := rA Θ 6 15 (upto (fun j => tb Θ + (86 + 3 * j)) i)
abbrev ar_5 (Θ : Th) (i : Nat) : va_E := rA Θ 5 4 (upto (fun j => tb Θ + (131 + 2 * j)) i)
abbrev ar_7 (Θ : Th) (i : Nat) : va_E := rA Θ 4 5 (upto (fun j => tb Θ + (139 + 4 * j)) i)
abbrev ar_8 (Θ : Th) (i : Nat) : va_E := rA Θ 5 5 (upto (fun j => tb Θ + (141 + 4 * j)) i)
/-- the object's p-th field is told, the arrays of references are filled so far -/
def hST (Θ : Th) (p i1 i2 i5 i7 i8 : Nat) : HP := fun q => if q = 0 then .inr (11, o11 Θ p) else if q = 1 then ar_1 Θ i1 else if q = 2 then ar_2 Θ i2 else if q = 5 then ar_5 Θ i5 else if q = 7 then ar_7 Θ i7 else if q = 8 then ar_8 Θ i8 else lay Θ S0 q
section Sta
variable {Θ : Th} {p i1 i2 i5 i7 i8 : Nat}
theorem st_hi {q : Nat} (h : 9 ≤ q) : hST Θ p i1 i2 i5 i7 i8 q = lay Θ S0 q := by
  unfold hST
  rw [if_neg (by omega), if_neg (by omega), if_neg (by omega), if_neg (by omega), if_neg (by omega), if_neg (by omega)]
theorem st_ext {G G' : HP} (h0 : G 0 = G' 0) (h1 : G 1 = G' 1) (h2 : G 2 = G' 2) (h5 : G 5 = G' 5) (h7 : G 7 = G' 7) (h8 : G 8 = G' 8) (h : ∀ q, q ≠ 0 → q ≠ 1 → q ≠ 2 → q ≠ 5 → q ≠ 7 → q ≠ 8 → G q = G' q) : G = G' := by
  funext q
  by_cases c0 : q = 0
  · rw [c0, h0]
  by_cases c1 : q = 1
  · rw [c1, h1]
  by_cases c2 : q = 2
  · rw [c2, h2]
  by_cases c5 : q = 5
  · rw [c5, h5]
  by_cases c7 : q = 7
  · rw [c7, h7]
  by_cases c8 : q = 8
  · rw [c8, h8]
  exact h q c0 c1 c2 c5 c7 c8
theorem st_el {q : Nat} (h0 : q ≠ 0) (h1 : q ≠ 1) (h2 : q ≠ 2) (h5 : q ≠ 5) (h7 : q ≠ 7) (h8 : q ≠ 8) : hST Θ p i1 i2 i5 i7 i8 q = lay Θ S0 q := by
  unfold hST
  rw [if_neg h0, if_neg h1, if_neg h2, if_neg h5, if_neg h7, if_neg h8]
theorem st_up0 {p' : Nat} : va_up (hST Θ p i1 i2 i5 i7 i8) 0 (.inr (11, o11 Θ p')) = hST Θ p' i1 i2 i5 i7 i8 := st_ext rfl rfl rfl rfl rfl rfl (fun q a b c e f g => by rw [up_ne a, st_el a b c e f g, st_el a b c e f g])
theorem st_up1 : va_up (hST Θ p i1 i2 i5 i7 i8) 1 (ar_1 Θ (i1 + 1)) = hST Θ p (i1 + 1) i2 i5 i7 i8 := st_ext rfl rfl rfl rfl rfl rfl (fun q a b c e f g => by rw [up_ne b, st_el a b c e f g, st_el a b c e f g])
theorem st_up2 : va_up (hST Θ p i1 i2 i5 i7 i8) 2 (ar_2 Θ (i2 + 1)) = hST Θ p i1 (i2 + 1) i5 i7 i8 := st_ext rfl rfl rfl rfl rfl rfl (fun q a b c e f g => by rw [up_ne c, st_el a b c e f g, st_el a b c e f g])
theorem st_up5 : va_up (hST Θ p i1 i2 i5 i7 i8) 5 (ar_5 Θ (i5 + 1)) = hST Θ p i1 i2 (i5 + 1) i7 i8 := st_ext rfl rfl rfl rfl rfl rfl (fun q a b c e f g => by rw [up_ne e, st_el a b c e f g, st_el a b c e f g])
theorem st_up7 : va_up (hST Θ p i1 i2 i5 i7 i8) 7 (ar_7 Θ (i7 + 1)) = hST Θ p i1 i2 i5 (i7 + 1) i8 := st_ext rfl rfl rfl rfl rfl rfl (fun q a b c e f g => by rw [up_ne f, st_el a b c e f g, st_el a b c e f g])
theorem st_up8 : va_up (hST Θ p i1 i2 i5 i7 i8) 8 (ar_8 Θ (i8 + 1)) = hST Θ p i1 i2 i5 i7 (i8 + 1) := st_ext rfl rfl rfl rfl rfl rfl (fun q a b c e f g => by rw [up_ne g, st_el a b c e f g, st_el a b c e f g])
theorem st_fin : hST Θ 15 6 15 4 5 5 = lay Θ S0 := st_ext rfl rfl rfl rfl rfl rfl (fun q a b c e f g => st_el a b c e f g)
theorem z_T {i : Nat} (h : i < 15) : hST Θ p i1 i2 i5 i7 i8 (86 + 3 * i) = .inr (8, [.int (nI i), .int 0, .int 0, .int 0, .ref (tb Θ + (86 + 3 * i + 1)), .ref (tb Θ + (86 + 3 * i + 2))]) ∧ hST Θ p i1 i2 i5 i7 i8 (86 + 3 * i + 1) = iA Θ 0 96 (fun _ => 0) ∧ hST Θ p i1 i2 i5 i7 i8 (86 + 3 * i + 2) = iA Θ 0 48 (fun _ => 0) := by
  rw [st_hi (by omega), st_hi (by omega), st_hi (by omega)]
  refine lt15 (P := fun i => lay Θ S0 (86 + 3 * i) = .inr (8, [.int (nI i), .int 0, .int 0, .int 0, .ref (tb Θ + (86 + 3 * i + 1)), .ref (tb Θ + (86 + 3 * i + 2))]) ∧ lay Θ S0 (86 + 3 * i + 1) = iA Θ 0 96 (fun _ => 0) ∧ lay Θ S0 (86 + 3 * i + 2) = iA Θ 0 48 (fun _ => 0)) ?_ ?_ ?_ ?_ ?_ ?_ ?_ ?_ ?_ ?_ ?_ ?_ ?_ ?_ ?_ h <;> exact ⟨rfl, rfl, rfl⟩
theorem z_R {i : Nat} (h : i < 4) : hST Θ p i1 i2 i5 i7 i8 (131 + 2 * i) = .inr (5, [.int (-1), .int 0, .ref (tb Θ + (131 + 2 * i + 1))]) ∧ hST Θ p i1 i2 i5 i7 i8 (131 + 2 * i + 1) = iA Θ 0 24 (fun _ => 0) := by
  rw [st_hi (by omega), st_hi (by omega)]
  refine lt4 (P := fun i => lay Θ S0 (131 + 2 * i) = .inr (5, [.int (-1), .int 0, .ref (tb Θ + (131 + 2 * i + 1))]) ∧ lay Θ S0 (131 + 2 * i + 1) = iA Θ 0 24 (fun _ => 0)) ?_ ?_ ?_ ?_ h <;> exact ⟨rfl, rfl⟩
theorem z_L {i : Nat} (h : i < 5) : (hST Θ p i1 i2 i5 i7 i8 (139 + 4 * i) = .inr (4, [.ref (tb Θ + (14 + 0)), .int 0, .int 0, .ref (tb Θ + (139 + 4 * i + 1))]) ∧ hST Θ p i1 i2 i5 i7 i8 (139 + 4 * i + 1) = iA Θ 0 6 (fun _ => 0)) ∧ hST Θ p i1 i2 i5 i7 i8 (141 + 4 * i) = .inr (5, [.int (-1), .int 0, .ref (tb Θ + (141 + 4 * i + 1))]) ∧ hST Θ p i1 i2 i5 i7 i8 (141 + 4 * i + 1) = iA Θ 0 24 (fun _ => 0) := by
  rw [st_hi (by omega), st_hi (by omega), st_hi (by omega), st_hi (by omega)]
  refine lt5 (P := fun i => (lay Θ S0 (139 + 4 * i) = .inr (4, [.ref (tb Θ + (14 + 0)), .int 0, .int 0, .ref (tb Θ + (139 + 4 * i + 1))]) ∧ lay Θ S0 (139 + 4 * i + 1) = iA Θ 0 6 (fun _ => 0)) ∧ lay Θ S0 (141 + 4 * i) = .inr (5, [.int (-1), .int 0, .ref (tb Θ + (141 + 4 * i + 1))]) ∧ lay Θ S0 (141 + 4 * i + 1) = iA Θ 0 24 (fun _ => 0)) ?_ ?_ ?_ ?_ ?_ h <;> exact ⟨⟨rfl, rfl⟩, rfl, rfl⟩
theorem z_P20 : ∀ i, i < 9 → hST Θ p i1 i2 i5 i7 i8 (20 + 4 + 2 * i) = .inr (4, [.ref (tb Θ + (14 + 0)), .int 0, .int 0, .ref (tb Θ + (20 + 4 + 2 * i + 1))]) ∧ hST Θ p i1 i2 i5 i7 i8 (20 + 4 + 2 * i + 1) = iA Θ 0 6 (fun _ => 0) := by
  intro i h
  rw [st_hi (by omega), st_hi (by omega)]
  refine lt9 (P := fun i => lay Θ S0 (20 + 4 + 2 * i) = .inr (4, [.ref (tb Θ + (14 + 0)), .int 0, .int 0, .ref (tb Θ + (20 + 4 + 2 * i + 1))]) ∧ lay Θ S0 (20 + 4 + 2 * i + 1) = iA Θ 0 6 (fun _ => 0)) ?_ ?_ ?_ ?_ ?_ ?_ ?_ ?_ ?_ h <;> exact ⟨rfl, rfl⟩
theorem z_P42 : ∀ i, i < 9 → hST Θ p i1 i2 i5 i7 i8 (42 + 4 + 2 * i) = .inr (4, [.ref (tb Θ + (14 + 0)), .int 0, .int 0, .ref (tb Θ + (42 + 4 + 2 * i + 1))]) ∧ hST Θ p i1 i2 i5 i7 i8 (42 + 4 + 2 * i + 1) = iA Θ 0 6 (fun _ => 0) := by
  intro i h
  rw [st_hi (by omega), st_hi (by omega)]
  refine lt9 (P := fun i => lay Θ S0 (42 + 4 + 2 * i) = .inr (4, [.ref (tb Θ + (14 + 0)), .int 0, .int 0, .ref (tb Θ + (42 + 4 + 2 * i + 1))]) ∧ lay Θ S0 (42 + 4 + 2 * i + 1) = iA Θ 0 6 (fun _ => 0)) ?_ ?_ ?_ ?_ ?_ ?_ ?_ ?_ ?_ h <;> exact ⟨rfl, rfl⟩
theorem z_P64 : ∀ i, i < 9 → hST Θ p i1 i2 i5 i7 i8 (64 + 4 + 2 * i) = .inr (4, [.ref (tb Θ + (14 + 0)), .int 0, .int 0, .ref (tb Θ + (64 + 4 + 2 * i + 1))]) ∧ hST Θ p i1 i2 i5 i7 i8 (64 + 4 + 2 * i + 1) = iA Θ 0 6 (fun _ => 0) := by
  intro i h
  rw [st_hi (by omega), st_hi (by omega)]
  refine lt9 (P := fun i => lay Θ S0 (64 + 4 + 2 * i) = .inr (4, [.ref (tb Θ + (14 + 0)), .int 0, .int 0, .ref (tb Θ + (64 + 4 + 2 * i + 1))]) ∧ lay Θ S0 (64 + 4 + 2 * i + 1) = iA Θ 0 6 (fun _ => 0)) ?_ ?_ ?_ ?_ ?_ ?_ ?_ ?_ ?_ h <;> exact ⟨rfl, rfl⟩
theorem tr_1 : (fun j : Nat => tref Θ ((fun _ => -1 : Nat → Int32) j)) = fun _ => none := by
  funext j
  exact if_pos (show (-1 : Int32) < 0 by decide)
theorem z_3 : hST Θ p i1 i2 i5 i7 i8 3 = .inr (7, [.ref (tb Θ + (3 + 1)), .int 0, .int 0, .int 0, .int 0, .null]) := by
  show Sum.inr (7, [Value.ref (tb Θ + 4), .int 0, .int 0, .int 0, .int 0, va_rf (tref Θ (-1))]) = _
  rw [tref, if_pos (by decide)]
  rfl
theorem z_W20 : hST Θ p i1 i2 i5 i7 i8 20 = .inr (10, [.ref (tb Θ + (20 + 1)), .int 0, .int 0, .int 0, .int 0, .int 0, .int 0, .int 1, .int 40, .ref (tb Θ + (20 + 2)), .int 0, .int 1, .ref (tb Θ + (20 + 3)), .int 0]) ∧ hST Θ p i1 i2 i5 i7 i8 (20 + 1) = crA Θ 20 9 ∧ hST Θ p i1 i2 i5 i7 i8 (20 + 2) = iA Θ 0 4 (fun _ => 0) ∧ hST Θ p i1 i2 i5 i7 i8 (20 + 3) = rA Θ 6 3 (fun _ => none) := by
  refine ⟨rfl, rfl, rfl, ?_⟩
  show rA Θ 6 3 (fun j => tref Θ ((fun _ => -1 : Nat → Int32) j)) = _
  rw [tr_1]
theorem z_W42 : hST Θ p i1 i2 i5 i7 i8 42 = .inr (10, [.ref (tb Θ + (42 + 1)), .int 0, .int 0, .int 0, .int 0, .int 0, .int 0, .int 1, .int 40, .ref (tb Θ + (42 + 2)), .int 0, .int 1, .ref (tb Θ + (42 + 3)), .int 0]) ∧ hST Θ p i1 i2 i5 i7 i8 (42 + 1) = crA Θ 42 9 ∧ hST Θ p i1 i2 i5 i7 i8 (42 + 2) = iA Θ 0 4 (fun _ => 0) ∧ hST Θ p i1 i2 i5 i7 i8 (42 + 3) = rA Θ 6 3 (fun _ => none) := by
  refine ⟨rfl, rfl, rfl, ?_⟩
  show rA Θ 6 3 (fun j => tref Θ ((fun _ => -1 : Nat → Int32) j)) = _
  rw [tr_1]
theorem z_W64 : hST Θ p i1 i2 i5 i7 i8 64 = .inr (10, [.ref (tb Θ + (64 + 1)), .int 0, .int 0, .int 0, .int 0, .int 0, .int 0, .int 1, .int 40, .ref (tb Θ + (64 + 2)), .int 0, .int 1, .ref (tb Θ + (64 + 3)), .int 0]) ∧ hST Θ p i1 i2 i5 i7 i8 (64 + 1) = crA Θ 64 9 ∧ hST Θ p i1 i2 i5 i7 i8 (64 + 2) = iA Θ 0 4 (fun _ => 0) ∧ hST Θ p i1 i2 i5 i7 i8 (64 + 3) = rA Θ 6 3 (fun _ => none) := by
  refine ⟨rfl, rfl, rfl, ?_⟩
  show rA Θ 6 3 (fun j => tref Θ ((fun _ => -1 : Nat → Int32) j)) = _
  rw [tr_1]
theorem st_upn {i' : Nat} (h : i1 + 1 = i') : va_up (hST Θ p i1 i2 i5 i7 i8) 1 (ar_1 Θ (i1 + 1)) = hST Θ p i' i2 i5 i7 i8 := by
  subst h
  exact st_up1
end Sta
