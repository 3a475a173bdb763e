/-! more rows; numbers -/
section More
variable {Θ : Th} {d mc ms : Nat} {y : MethodName} {cc : ByteArray} {nL : Nat} {ret : Option FieldType} {cl sl n : Nat} {G : HP} {pc pc' : Nat} {ls : LV} {st : List Value} {Q : QT}
theorem E_ic {k : Int} {v : Int32} (hd : Dc cc pc (.iconst k) 1 pc') (hv : Int32.ofInt k = v) (K : E Θ d mc ms y cc nL ret cl sl n G pc' ls (.int v :: st) Q) : E Θ d mc ms y cc nL ret cl sl n G pc ls st Q := E_iconst hd (by rw [hv]; exact K)
end More
/-- x is the i-th of n -/
theorem n31 {n : Nat} (h : n ≤ 2000) : n < 2 ^ 31 := Nat.lt_of_le_of_lt h (by decide)
theorem nI_inj {a b : Nat} (ha : a < 2 ^ 31) (hb : b < 2 ^ 31) (h : nI a = nI b) : a = b := (nI_eq ha hb).mp h
def ix (x : Int32) (n : Nat) : Option Nat := if 0 ≤ x ∧ x < nI n then some x.toNatClampNeg else none
theorem ix_nI {i n : Nat} (hi : i < n) (hn : n < 2 ^ 31) : ix (nI i) n = some i := by
  unfold ix
  rw [if_pos ⟨nI_pos' (by omega), nI_lt hi hn⟩, nI_clamp (by omega)]
theorem ix_no {x : Int32} {n : Nat} (hn : n < 2 ^ 31) (h : ∀ i, i < n → x ≠ nI i) : ix x n = none := by
  unfold ix
  rw [if_neg]
  rintro ⟨h1, h2⟩
  obtain ⟨j, hj, rfl⟩ := nI_of (x := x) (by intro h3; exact absurd h1 (by simpa using h3))
  exact h j ((nI_ltI hj hn).mp h2) rfl
theorem ix_of {x : Int32} {n : Nat} (h1 : ¬ x < 0) (h2 : x < nI n) (hn : n < 2 ^ 31) : ∃ i, i < n ∧ x = nI i := by
  obtain ⟨j, hj, rfl⟩ := nI_of h1
  exact ⟨j, (nI_ltI hj hn).mp h2, rfl⟩
theorem ix_neg {x : Int32} {n i : Nat} (h : x < 0) (hi : i < 2 ^ 31) : x ≠ nI i := fun e => nI_pos hi (e ▸ h)
theorem ix_big {x : Int32} {n i : Nat} (h : nI n ≤ x) (hi : i < n) (hn : n < 2 ^ 31) : x ≠ nI i := fun e => by
  rw [e] at h
  exact absurd ((nI_leI hn (by omega)).mp h) (by omega)
