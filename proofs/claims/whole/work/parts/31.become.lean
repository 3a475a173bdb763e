/-! the class: one as another -/
theorem vu_at {S : SS} {k : Nat} {g : Nat → Int32} : va_up S k g k = g := by simp [va_up]
theorem vu_ne {S : SS} {k k' : Nat} {g : Nat → Int32} (h : k' ≠ k) : va_up S k g k' = S k' := by simp [va_up, h]
theorem cpy_at {a b : Nat → Int32} {n j : Nat} (h : j < n) : va_cpy a b 0 0 n j = a j := by
  unfold va_cpy
  simp [h]
section Be
variable {Θ : Th} {d : Nat} {S : SS}
theorem s_X4_becomeAs {Q : HP → Prop} {a b : Nat} (ha : isP a) (hb : isP b) (hab : a ≠ b) (hab1 : a ≠ b + 1) (hba1 : b ≠ a + 1) (hq : ∀ S', (∀ j, j < 3 → S' a j = S b j) → (∀ j, j < 6 → S' (a + 1) j = S (b + 1) j) → (∀ k, k ≠ a → k ≠ a + 1 → S' k = S k) → Q (lay Θ S')) : C Θ (d + 1) 0 0 yX4_becomeAs cX4_becomeAs 2 none [.ref (tb Θ + a), .ref (tb Θ + b)] 183 (lay Θ S) (Qv Q) := by
  refine C_of rfl rfl (Nat.le_of_ble_eq_true rfl) ?_
  refine E_aload_n dX4_becomeAs_0 rfl ?_
  refine E_aload_n dX4_becomeAs_1 rfl ?_
  refine L_get fX4_15 dX4_becomeAs_2 (by have := (hb).lt; omega) (sh_P hb) rfl ?_
  refine L_put (x0 := S b 0) fX4_15 dX4_becomeAs_5 (by have := ha.lt; omega) (sh_P ha) rfl rfl (Nat.le_of_ble_eq_true rfl) rfl ?_
  refine E_aload_n dX4_becomeAs_8 rfl ?_
  refine E_aload_n dX4_becomeAs_9 rfl ?_
  refine L_get fX4_19 dX4_becomeAs_10 (by have := (hb).lt; omega) (sh_P hb) rfl ?_
  refine L_puti fX4_19 dX4_becomeAs_13 (by have := (ha).lt; omega) (sh_P ha) (Nat.le_of_ble_eq_true rfl) rfl ?_
  refine E_aload_n dX4_becomeAs_16 rfl ?_
  refine E_aload_n dX4_becomeAs_17 rfl ?_
  refine L_get fX4_23 dX4_becomeAs_18 (by have := (hb).lt; omega) (sh_P hb) rfl ?_
  refine L_puti fX4_23 dX4_becomeAs_21 (by have := (ha).lt; omega) (sh_P ha) (Nat.le_of_ble_eq_true rfl) rfl ?_
  refine E_aload_n dX4_becomeAs_24 rfl ?_
  refine L_get fX4_9 dX4_becomeAs_25 (by have := (hb).lt; omega) (sh_P hb) rfl ?_
  refine E_ic (v := 0) dX4_becomeAs_28 (by decide) ?_
  refine E_aload_n dX4_becomeAs_29 rfl ?_
  refine L_get fX4_9 dX4_becomeAs_30 (by have := (ha).lt; omega) (sh_P ha) rfl ?_
  refine E_ic (v := 0) dX4_becomeAs_33 (by decide) ?_
  refine E_bipush (v := 6) dX4_becomeAs_34 (by decide) ?_
  refine L_copy (sp := 0) (dp := 0) (len := 6) mX4_32 dX4_becomeAs_36 (Nat.le_of_ble_eq_true rfl) (by have := hb.lt; omega) (sh_Pv hb) (by have := ha.lt; omega) (sh_Pv ha) rfl rfl rfl (by decide) (by decide) (by decide) (by decide) ?_
  refine E_vret dX4_becomeAs_39 rfl rfl ?_
  refine hq _ (fun j hj => ?_) (fun j hj => ?_) (fun k k1 k2 => ?_)
  · rw [vu_ne (by omega), wr_at, wr_at, wr_at, wr_ne (Ne.symm hab), wr_ne (Ne.symm hab), wr_ne (Ne.symm hab)]
    rcases (show j = 0 ∨ j = 1 ∨ j = 2 by omega) with rfl | rfl | rfl
    · rw [pk_un (by decide), pk_un (by decide), pk_us]
    · rw [pk_un (by decide), pk_us]
    · rw [pk_us]
  · rw [vu_at, cpy_at hj, wr_ne (Ne.symm hab1), wr_ne (Ne.symm hab1), wr_ne (Ne.symm hab1)]
  · rw [vu_ne k2, wr_ne k1, wr_ne k1, wr_ne k1]
end Be
