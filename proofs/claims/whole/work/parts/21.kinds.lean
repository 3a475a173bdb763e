/-! the class's kinds -/
theorem ht_tw : ∀ a : Fin 7, (if (2 * nI a.val - 1 : Int32) < 0 then 0 else 2 * nI a.val - 1) = htF 3 (nI a.val) := by decide +kernel
theorem sh_hi : ∀ a b : Fin 7, (if (nI a.val - 3 : Int32) = nI b.val - 3 then (if (nI a.val - 3 : Int32) = 3 then -3 else nI a.val - 3 + 1) else if (nI a.val - 3 : Int32) < nI b.val - 3 then (if (nI a.val - 3 - 1 : Int32) < -3 then -3 else nI a.val - 3 - 1) else (if (3 : Int32) < nI a.val - 3 + 1 then 3 else nI a.val - 3 + 1)) = shF 2 (nI a.val - 3) (nI b.val - 3) := by decide +kernel
section Kinds
variable {Θ : Th} {d : Nat} {S : SS} {v : WV} {Q : Int32 → HP → Prop}
theorem s_X0_kind {n a : Nat} {G : HP} (hq : Q (5) G) : C Θ d 0 0 yX0_kind cX0_kind 1 (some .int) [.ref a] n G (Qi Q) := by
  refine C_of rfl rfl (Nat.le_of_ble_eq_true rfl) ?_
  refine E_ic (v := 5) dX0_kind_0 (by decide) ?_
  refine E_iret dX0_kind_1 rfl rfl ?_
  exact hq
theorem s_X1_kind {n a : Nat} {G : HP} (hq : Q (2) G) : C Θ d 0 0 yX1_kind cX1_kind 1 (some .int) [.ref a] n G (Qi Q) := by
  refine C_of rfl rfl (Nat.le_of_ble_eq_true rfl) ?_
  refine E_ic (v := 2) dX1_kind_0 (by decide) ?_
  refine E_iret dX1_kind_1 rfl rfl ?_
  exact hq
theorem s_X2_kind {n a : Nat} {G : HP} (hq : Q (1) G) : C Θ d 0 0 yX2_kind cX2_kind 1 (some .int) [.ref a] n G (Qi Q) := by
  refine C_of rfl rfl (Nat.le_of_ble_eq_true rfl) ?_
  refine E_ic (v := 1) dX2_kind_0 (by decide) ?_
  refine E_iret dX2_kind_1 rfl rfl ?_
  exact hq
theorem s_X3_kind {n a : Nat} {G : HP} (hq : Q (0) G) : C Θ d 0 0 yX3_kind cX3_kind 1 (some .int) [.ref a] n G (Qi Q) := by
  refine C_of rfl rfl (Nat.le_of_ble_eq_true rfl) ?_
  refine E_ic (v := 0) dX3_kind_0 (by decide) ?_
  refine E_iret dX3_kind_1 rfl rfl ?_
  exact hq
theorem s_X6_kind {n a : Nat} {G : HP} (hq : Q (4) G) : C Θ d 0 0 yX6_kind cX6_kind 1 (some .int) [.ref a] n G (Qi Q) := by
  refine C_of rfl rfl (Nat.le_of_ble_eq_true rfl) ?_
  refine E_ic (v := 4) dX6_kind_0 (by decide) ?_
  refine E_iret dX6_kind_1 rfl rfl ?_
  exact hq
theorem s_X9_kind {n a : Nat} {G : HP} (hq : Q (3) G) : C Θ d 0 0 yX9_kind cX9_kind 1 (some .int) [.ref a] n G (Qi Q) := by
  refine C_of rfl rfl (Nat.le_of_ble_eq_true rfl) ?_
  refine E_ic (v := 3) dX9_kind_0 (by decide) ?_
  refine E_iret dX9_kind_1 rfl rfl ?_
  exact hq
theorem s_X0_heats {n a : Nat} {G : HP} {x : Int32} (hq : Q (0) G) : C Θ d 0 0 yX0_heats cX0_heats 2 (some .int) [.ref a, .int x] n G (Qi Q) := by
  refine C_of rfl rfl (Nat.le_of_ble_eq_true rfl) ?_
  refine E_ic (v := 0) dX0_heats_0 (by decide) ?_
  refine E_iret dX0_heats_1 rfl rfl ?_
  exact hq
theorem s_X1_heats {n a : Nat} {G : HP} {x : Int32} (hq : Q (x / 2) G) : C Θ d 0 0 yX1_heats cX1_heats 2 (some .int) [.ref a, .int x] n G (Qi Q) := by
  refine C_of rfl rfl (Nat.le_of_ble_eq_true rfl) ?_
  refine E_iload_n dX1_heats_0 rfl ?_
  refine E_ic (v := 2) dX1_heats_1 (by decide) ?_
  refine E_idiv dX1_heats_2 (by decide) ?_
  refine E_iret dX1_heats_3 rfl rfl ?_
  exact hq
theorem s_X2_heats {n a : Nat} {G : HP} {x : Int32} (hq : Q (2 * x) G) : C Θ d 0 0 yX2_heats cX2_heats 2 (some .int) [.ref a, .int x] n G (Qi Q) := by
  refine C_of rfl rfl (Nat.le_of_ble_eq_true rfl) ?_
  refine E_ic (v := 2) dX2_heats_0 (by decide) ?_
  refine E_iload_n dX2_heats_1 rfl ?_
  refine E_imul dX2_heats_2 ?_
  refine E_iret dX2_heats_3 rfl rfl ?_
  exact hq
theorem s_X3_heats {n a : Nat} {G : HP} {x : Int32} (hq : Q (x) G) : C Θ d 0 0 yX3_heats cX3_heats 2 (some .int) [.ref a, .int x] n G (Qi Q) := by
  refine C_of rfl rfl (Nat.le_of_ble_eq_true rfl) ?_
  refine E_iload_n dX3_heats_0 rfl ?_
  refine E_iret dX3_heats_1 rfl rfl ?_
  exact hq
theorem s_X0_shifts {n a : Nat} {G : HP} {x y : Int32} (hq : Q (x) G) : C Θ d 0 0 yX0_shifts cX0_shifts 3 (some .int) [.ref a, .int x, .int y] n G (Qi Q) := by
  refine C_of rfl rfl (Nat.le_of_ble_eq_true rfl) ?_
  refine E_iload_n dX0_shifts_0 rfl ?_
  refine E_iret dX0_shifts_1 rfl rfl ?_
  exact hq
theorem s_X6_shifts {n a : Nat} {G : HP} {x y : Int32} (hq : Q (x) G) : C Θ d 0 0 yX6_shifts cX6_shifts 3 (some .int) [.ref a, .int x, .int y] n G (Qi Q) := by
  refine C_of rfl rfl (Nat.le_of_ble_eq_true rfl) ?_
  refine E_iload_n dX6_shifts_0 rfl ?_
  refine E_iret dX6_shifts_1 rfl rfl ?_
  exact hq
theorem s_X9_shifts {n a : Nat} {G : HP} {x y : Int32} (hq : Q (y) G) : C Θ d 0 0 yX9_shifts cX9_shifts 3 (some .int) [.ref a, .int x, .int y] n G (Qi Q) := by
  refine C_of rfl rfl (Nat.le_of_ble_eq_true rfl) ?_
  refine E_iload_n dX9_shifts_0 rfl ?_
  refine E_iret dX9_shifts_1 rfl rfl ?_
  exact hq
theorem s_X0_worth {n a : Nat} {G : HP} {x : Int32} (hq : Q (3) G) : C Θ d 0 0 yX0_worth cX0_worth 2 (some .int) [.ref a, .int x] n G (Qi Q) := by
  refine C_of rfl rfl (Nat.le_of_ble_eq_true rfl) ?_
  refine E_ic (v := 3) dX0_worth_0 (by decide) ?_
  refine E_iret dX0_worth_1 rfl rfl ?_
  exact hq
theorem s_X1_worth {n a : Nat} {G : HP} {x : Int32} (hq : Q (120 - x) G) : C Θ d 0 0 yX1_worth cX1_worth 2 (some .int) [.ref a, .int x] n G (Qi Q) := by
  refine C_of rfl rfl (Nat.le_of_ble_eq_true rfl) ?_
  refine E_bipush (v := 120) dX1_worth_0 (by decide) ?_
  refine E_iload_n dX1_worth_2 rfl ?_
  refine E_isub dX1_worth_3 ?_
  refine E_iret dX1_worth_4 rfl rfl ?_
  exact hq
theorem s_X2_worth {n a : Nat} {G : HP} {x : Int32} (hq : Q (x + 4) G) : C Θ d 0 0 yX2_worth cX2_worth 2 (some .int) [.ref a, .int x] n G (Qi Q) := by
  refine C_of rfl rfl (Nat.le_of_ble_eq_true rfl) ?_
  refine E_iload_n dX2_worth_0 rfl ?_
  refine E_ic (v := 4) dX2_worth_1 (by decide) ?_
  refine E_iadd dX2_worth_2 ?_
  refine E_iret dX2_worth_3 rfl rfl ?_
  exact hq
theorem s_X3_worth {n a : Nat} {G : HP} {x : Int32} (hq : Q (x) G) : C Θ d 0 0 yX3_worth cX3_worth 2 (some .int) [.ref a, .int x] n G (Qi Q) := by
  refine C_of rfl rfl (Nat.le_of_ble_eq_true rfl) ?_
  refine E_iload_n dX3_worth_0 rfl ?_
  refine E_iret dX3_worth_1 rfl rfl ?_
  exact hq
theorem s_X3_speaks {n a : Nat} {G : HP} {x y : Int32} (hq : Q (x) G) : C Θ d 0 0 yX3_speaks cX3_speaks 3 (some .int) [.ref a, .int x, .int y] n G (Qi Q) := by
  refine C_of rfl rfl (Nat.le_of_ble_eq_true rfl) ?_
  refine E_iload_n dX3_speaks_0 rfl ?_
  refine E_iret dX3_speaks_1 rfl rfl ?_
  exact hq
theorem s_X1_speaks {n a : Nat} {G : HP} {x y : Int32} (hq : Q (x + 3) G) : C Θ d 0 0 yX1_speaks cX1_speaks 3 (some .int) [.ref a, .int x, .int y] n G (Qi Q) := by
  refine C_of rfl rfl (Nat.le_of_ble_eq_true rfl) ?_
  refine E_iload_n dX1_speaks_0 rfl ?_
  refine E_ic (v := 3) dX1_speaks_1 (by decide) ?_
  refine E_iadd dX1_speaks_2 ?_
  refine E_iret dX1_speaks_3 rfl rfl ?_
  exact hq
theorem s_X6_speaks {n a : Nat} {G : HP} {x y : Int32} (hq : Q (0) G) : C Θ d 0 0 yX6_speaks cX6_speaks 3 (some .int) [.ref a, .int x, .int y] n G (Qi Q) := by
  refine C_of rfl rfl (Nat.le_of_ble_eq_true rfl) ?_
  refine E_ic (v := 0) dX6_speaks_0 (by decide) ?_
  refine E_iret dX6_speaks_1 rfl rfl ?_
  exact hq
theorem s_X2_speaks {n a : Nat} {G : HP} {x y : Int32} (hq : Q (x + (if 0 < y then 2 else 0)) G) : C Θ d 0 0 yX2_speaks cX2_speaks 3 (some .int) [.ref a, .int x, .int y] n G (Qi Q) := by
  refine C_of rfl rfl (Nat.le_of_ble_eq_true rfl) ?_
  refine E_iload_n dX2_speaks_0 rfl ?_
  refine E_iload_n dX2_speaks_1 rfl ?_
  refine E_if_le dX2_speaks_2 (fun c2 => ?_) (fun c2 => ?_)
  · refine E_ic (v := 0) dX2_speaks_9 (by decide) ?_
    refine E_iadd dX2_speaks_10 ?_
    refine E_iret dX2_speaks_11 rfl rfl ?_
    simpa [c2, (i_lt c2)] using hq
  · refine E_ic (v := 2) dX2_speaks_5 (by decide) ?_
    refine E_goto dX2_speaks_6 ?_
    refine E_iadd dX2_speaks_10 ?_
    refine E_iret dX2_speaks_11 rfl rfl ?_
    simpa [c2, (i_nle c2)] using hq
theorem s_X3_shifts {n a : Nat} {G : HP} {x y : Int32} (hq : Q (if x < y then x + 1 else if y < x then x - 1 else x) G) : C Θ d 0 0 yX3_shifts cX3_shifts 3 (some .int) [.ref a, .int x, .int y] n G (Qi Q) := by
  refine C_of rfl rfl (Nat.le_of_ble_eq_true rfl) ?_
  refine E_iload_n dX3_shifts_0 rfl ?_
  refine E_iload_n dX3_shifts_1 rfl ?_
  refine E_icmp_ge dX3_shifts_2 (fun c2 => ?_) (fun c2 => ?_)
  · refine E_iload_n dX3_shifts_11 rfl ?_
    refine E_iload_n dX3_shifts_12 rfl ?_
    refine E_icmp_le dX3_shifts_13 (fun c13 => ?_) (fun c13 => ?_)
    · refine E_iload_n dX3_shifts_22 rfl ?_
      refine E_iret dX3_shifts_23 rfl rfl ?_
      simpa [c2, (i_lt c2), c13, (i_lt c13)] using hq
    · refine E_iload_n dX3_shifts_16 rfl ?_
      refine E_ic (v := 1) dX3_shifts_17 (by decide) ?_
      refine E_isub dX3_shifts_18 ?_
      refine E_goto dX3_shifts_19 ?_
      refine E_iret dX3_shifts_23 rfl rfl ?_
      simpa [c2, (i_lt c2), c13, (i_nle c13)] using hq
  · refine E_iload_n dX3_shifts_5 rfl ?_
    refine E_ic (v := 1) dX3_shifts_6 (by decide) ?_
    refine E_iadd dX3_shifts_7 ?_
    refine E_goto dX3_shifts_8 ?_
    refine E_iret dX3_shifts_23 rfl rfl ?_
    simpa [c2, (i_nle c2)] using hq
theorem s_X1_shifts {n a : Nat} {G : HP} {x y : Int32} (hq : Q (if x = y then (if x = 3 then -3 else x + 1) else if x < y then (if x - 1 < -3 then -3 else x - 1) else (if 3 < x + 1 then 3 else x + 1)) G) : C Θ (d + 1) 0 0 yX1_shifts cX1_shifts 3 (some .int) [.ref a, .int x, .int y] n G (Qi Q) := by
  refine C_of rfl rfl (Nat.le_of_ble_eq_true rfl) ?_
  refine E_iload_n dX1_shifts_0 rfl ?_
  refine E_iload_n dX1_shifts_1 rfl ?_
  refine E_icmp_ne dX1_shifts_2 (fun c2 => ?_) (fun c2 => ?_)
  · refine E_iload_n dX1_shifts_19 rfl ?_
    refine E_iload_n dX1_shifts_20 rfl ?_
    refine E_icmp_ge dX1_shifts_21 (fun c21 => ?_) (fun c21 => ?_)
    · refine E_iload_n dX1_shifts_35 rfl ?_
      refine E_ic (v := 1) dX1_shifts_36 (by decide) ?_
      refine E_iadd dX1_shifts_37 ?_
      refine E_ic (v := 3) dX1_shifts_38 (by decide) ?_
      refine E_mmin mX1_19 w_mins w_mi w_minc dX1_shifts_39 (Nat.le_of_ble_eq_true rfl) ?_
      refine E_iret dX1_shifts_42 rfl rfl ?_
      first | (simpa [c2, c21, (i_lt c21)] using hq) | (simp_all)
    · refine E_iload_n dX1_shifts_24 rfl ?_
      refine E_ic (v := 1) dX1_shifts_25 (by decide) ?_
      refine E_isub dX1_shifts_26 ?_
      refine E_bipush (v := (-3)) dX1_shifts_27 (by decide) ?_
      refine E_mmax mX1_13 w_maxs w_mi w_maxc dX1_shifts_29 (Nat.le_of_ble_eq_true rfl) ?_
      refine E_goto dX1_shifts_32 ?_
      refine E_iret dX1_shifts_42 rfl rfl ?_
      first | (simpa [c2, c21, (i_nle c21)] using hq) | (simp_all)
  · refine E_iload_n dX1_shifts_5 rfl ?_
    refine E_ic (v := 3) dX1_shifts_6 (by decide) ?_
    refine E_icmp_ne dX1_shifts_7 (fun c7 => ?_) (fun c7 => ?_)
    · refine E_iload_n dX1_shifts_15 rfl ?_
      refine E_ic (v := 1) dX1_shifts_16 (by decide) ?_
      refine E_iadd dX1_shifts_17 ?_
      refine E_iret dX1_shifts_18 rfl rfl ?_
      first | (simpa [c2, c7] using hq) | (simp_all)
    · refine E_bipush (v := (-3)) dX1_shifts_10 (by decide) ?_
      refine E_goto dX1_shifts_12 ?_
      refine E_iret dX1_shifts_18 rfl rfl ?_
      first | (simpa [c2, c7] using hq) | (simp_all)
theorem s_X6_worth {x : Int32} (hq : Q (120 - x - 6) (lay Θ S)) : C Θ (d + 1) 0 0 yX6_worth cX6_worth 2 (some .int) [.ref (tb Θ + 18), .int x] 183 (lay Θ S) (Qi Q) := by
  refine C_of rfl rfl (Nat.le_of_ble_eq_true rfl) ?_
  refine E_aload_n dX6_worth_0 rfl ?_
  refine E_iload_n dX6_worth_1 rfl ?_
  refine E_U1i uX6_11 dX6_worth_2 (Nat.le_of_ble_eq_true rfl) (by decide) ((fun f => (rfl : cellOf Θ 18 f = _)) _) rfl (s_X1_worth ?_)
  refine E_bipush (v := 6) dX6_worth_5 (by decide) ?_
  refine E_isub dX6_worth_7 ?_
  refine E_iret dX6_worth_8 rfl rfl ?_
  exact hq
theorem s_X9_worth {x : Int32} (hq : Q (2 * (x + 4)) (lay Θ S)) : C Θ (d + 1) 0 0 yX9_worth cX9_worth 2 (some .int) [.ref (tb Θ + 17), .int x] 183 (lay Θ S) (Qi Q) := by
  refine C_of rfl rfl (Nat.le_of_ble_eq_true rfl) ?_
  refine E_ic (v := 2) dX9_worth_0 (by decide) ?_
  refine E_aload_n dX9_worth_1 rfl ?_
  refine E_iload_n dX9_worth_2 rfl ?_
  refine E_U1i uX9_24 dX9_worth_3 (Nat.le_of_ble_eq_true rfl) (by decide) ((fun f => (rfl : cellOf Θ 17 f = _)) _) rfl (s_X2_worth ?_)
  refine E_imul dX9_worth_6 ?_
  refine E_iret dX9_worth_7 rfl rfl ?_
  exact hq
theorem s_X9_speaks {x y : Int32} (hq : Q (2 * (x + (if 0 < y then 2 else 0))) (lay Θ S)) : C Θ (d + 1) 0 0 yX9_speaks cX9_speaks 3 (some .int) [.ref (tb Θ + 17), .int x, .int y] 183 (lay Θ S) (Qi Q) := by
  refine C_of rfl rfl (Nat.le_of_ble_eq_true rfl) ?_
  refine E_ic (v := 2) dX9_speaks_0 (by decide) ?_
  refine E_aload_n dX9_speaks_1 rfl ?_
  refine E_iload_n dX9_speaks_2 rfl ?_
  refine E_iload_n dX9_speaks_3 rfl ?_
  refine E_U2i uX9_11 dX9_speaks_4 (Nat.le_of_ble_eq_true rfl) (by decide) ((fun f => (rfl : cellOf Θ 17 f = _)) _) rfl (s_X2_speaks ?_)
  refine E_imul dX9_speaks_7 ?_
  refine E_iret dX9_speaks_8 rfl rfl ?_
  exact hq
theorem s_X9_heats {x : Int32} (hq : Q (if 2 * x - 1 < 0 then 0 else 2 * x - 1) (lay Θ S)) : C Θ (d + 1) 0 0 yX9_heats cX9_heats 2 (some .int) [.ref (tb Θ + 17), .int x] 183 (lay Θ S) (Qi Q) := by
  refine C_of rfl rfl (Nat.le_of_ble_eq_true rfl) ?_
  refine E_aload_n dX9_heats_0 rfl ?_
  refine E_iload_n dX9_heats_1 rfl ?_
  refine E_U1i uX9_15 dX9_heats_2 (Nat.le_of_ble_eq_true rfl) (by decide) ((fun f => (rfl : cellOf Θ 17 f = _)) _) rfl (s_X2_heats ?_)
  refine E_ic (v := 1) dX9_heats_5 (by decide) ?_
  refine E_isub dX9_heats_6 ?_
  refine E_ic (v := 0) dX9_heats_7 (by decide) ?_
  refine E_mmax mX9_19 w_maxs w_mi w_maxc dX9_heats_8 (Nat.le_of_ble_eq_true rfl) ?_
  refine E_iret dX9_heats_11 rfl rfl ?_
  exact hq
theorem s_X3_isOf {a n : Nat} {G : HP} {x : Int32} (ht : x = 0 → Q 1 G) (hf : ¬ x = 0 → Q 0 G) : C Θ d 0 0 yX3_isOf cX3_isOf 2 (some .boolean) [.ref a, .int x] n G (Qi Q) := by
  refine C_of rfl rfl (Nat.le_of_ble_eq_true rfl) ?_
  refine E_iload_n dX3_isOf_0 rfl ?_
  refine E_if_ne dX3_isOf_1 (fun c1 => ?_) (fun c1 => ?_)
  · refine E_ic (v := 0) dX3_isOf_8 (by decide) ?_
    refine E_iret dX3_isOf_9 rfl rfl ?_
    exact hf c1
  · refine E_ic (v := 1) dX3_isOf_4 (by decide) ?_
    refine E_goto dX3_isOf_5 ?_
    refine E_iret dX3_isOf_9 rfl rfl ?_
    exact ht c1
theorem s_X0_isOf {kb ci : Nat} {r : vw_C} (hkb : kb < 183) (hO : ∀ f, cellOf Θ kb f = .inr (ci, [])) (hrc : vwCl[ci]? = some r) {x : Int32} (ht : x = 5 ∨ x = 0 → Q 1 (lay Θ S)) (hf : ¬ (x = 5 ∨ x = 0) → Q 0 (lay Θ S)) : C Θ (d + 1) 0 0 yX0_isOf cX0_isOf 2 (some .boolean) [.ref (tb Θ + kb), .int x] 183 (lay Θ S) (Qi Q) := by
  refine C_of rfl rfl (Nat.le_of_ble_eq_true rfl) ?_
  refine E_iload_n dX0_isOf_0 rfl ?_
  refine E_ic (v := 5) dX0_isOf_1 (by decide) ?_
  refine E_icmp_eq dX0_isOf_2 (fun c2 => ?_) (fun c2 => ?_)
  · refine E_ic (v := 1) dX0_isOf_13 (by decide) ?_
    refine E_goto dX0_isOf_14 ?_
    refine E_iret dX0_isOf_18 rfl rfl ?_
    exact ht (by clear ht hf; simp_all)
  · refine E_aload_n dX0_isOf_5 rfl ?_
    refine E_iload_n dX0_isOf_6 rfl ?_
    refine E_U1i uX0_7 dX0_isOf_7 (Nat.le_of_ble_eq_true rfl) hkb (hO _) hrc (s_X3_isOf (fun g => ?_) (fun g => ?_))
    · refine E_if_eq dX0_isOf_10 (fun c => absurd c (by decide)) (fun _ => ?_)
      refine E_ic (v := 1) dX0_isOf_13 (by decide) ?_
      refine E_goto dX0_isOf_14 ?_
      refine E_iret dX0_isOf_18 rfl rfl ?_
      exact ht (by clear ht hf; simp_all)
    · refine E_if_eq dX0_isOf_10 (fun _ => ?_) (fun c => absurd (by decide) c)
      refine E_ic (v := 0) dX0_isOf_17 (by decide) ?_
      refine E_iret dX0_isOf_18 rfl rfl ?_
      exact hf (by clear ht hf; simp_all)
theorem s_X1_isOf {kb ci : Nat} {r : vw_C} (hkb : kb < 183) (hO : ∀ f, cellOf Θ kb f = .inr (ci, [])) (hrc : vwCl[ci]? = some r) {x : Int32} (ht : x = 2 ∨ x = 0 → Q 1 (lay Θ S)) (hf : ¬ (x = 2 ∨ x = 0) → Q 0 (lay Θ S)) : C Θ (d + 1) 0 0 yX1_isOf cX1_isOf 2 (some .boolean) [.ref (tb Θ + kb), .int x] 183 (lay Θ S) (Qi Q) := by
  refine C_of rfl rfl (Nat.le_of_ble_eq_true rfl) ?_
  refine E_iload_n dX1_isOf_0 rfl ?_
  refine E_ic (v := 2) dX1_isOf_1 (by decide) ?_
  refine E_icmp_eq dX1_isOf_2 (fun c2 => ?_) (fun c2 => ?_)
  · refine E_ic (v := 1) dX1_isOf_13 (by decide) ?_
    refine E_goto dX1_isOf_14 ?_
    refine E_iret dX1_isOf_18 rfl rfl ?_
    exact ht (by clear ht hf; simp_all)
  · refine E_aload_n dX1_isOf_5 rfl ?_
    refine E_iload_n dX1_isOf_6 rfl ?_
    refine E_U1i uX1_9 dX1_isOf_7 (Nat.le_of_ble_eq_true rfl) hkb (hO _) hrc (s_X3_isOf (fun g => ?_) (fun g => ?_))
    · refine E_if_eq dX1_isOf_10 (fun c => absurd c (by decide)) (fun _ => ?_)
      refine E_ic (v := 1) dX1_isOf_13 (by decide) ?_
      refine E_goto dX1_isOf_14 ?_
      refine E_iret dX1_isOf_18 rfl rfl ?_
      exact ht (by clear ht hf; simp_all)
    · refine E_if_eq dX1_isOf_10 (fun _ => ?_) (fun c => absurd (by decide) c)
      refine E_ic (v := 0) dX1_isOf_17 (by decide) ?_
      refine E_iret dX1_isOf_18 rfl rfl ?_
      exact hf (by clear ht hf; simp_all)
theorem s_X2_isOf {kb ci : Nat} {r : vw_C} (hkb : kb < 183) (hO : ∀ f, cellOf Θ kb f = .inr (ci, [])) (hrc : vwCl[ci]? = some r) {x : Int32} (ht : x = 1 ∨ x = 0 → Q 1 (lay Θ S)) (hf : ¬ (x = 1 ∨ x = 0) → Q 0 (lay Θ S)) : C Θ (d + 1) 0 0 yX2_isOf cX2_isOf 2 (some .boolean) [.ref (tb Θ + kb), .int x] 183 (lay Θ S) (Qi Q) := by
  refine C_of rfl rfl (Nat.le_of_ble_eq_true rfl) ?_
  refine E_iload_n dX2_isOf_0 rfl ?_
  refine E_ic (v := 1) dX2_isOf_1 (by decide) ?_
  refine E_icmp_eq dX2_isOf_2 (fun c2 => ?_) (fun c2 => ?_)
  · refine E_ic (v := 1) dX2_isOf_13 (by decide) ?_
    refine E_goto dX2_isOf_14 ?_
    refine E_iret dX2_isOf_18 rfl rfl ?_
    exact ht (by clear ht hf; simp_all)
  · refine E_aload_n dX2_isOf_5 rfl ?_
    refine E_iload_n dX2_isOf_6 rfl ?_
    refine E_U1i uX2_7 dX2_isOf_7 (Nat.le_of_ble_eq_true rfl) hkb (hO _) hrc (s_X3_isOf (fun g => ?_) (fun g => ?_))
    · refine E_if_eq dX2_isOf_10 (fun c => absurd c (by decide)) (fun _ => ?_)
      refine E_ic (v := 1) dX2_isOf_13 (by decide) ?_
      refine E_goto dX2_isOf_14 ?_
      refine E_iret dX2_isOf_18 rfl rfl ?_
      exact ht (by clear ht hf; simp_all)
    · refine E_if_eq dX2_isOf_10 (fun _ => ?_) (fun c => absurd (by decide) c)
      refine E_ic (v := 0) dX2_isOf_17 (by decide) ?_
      refine E_iret dX2_isOf_18 rfl rfl ?_
      exact hf (by clear ht hf; simp_all)
theorem s_X6_isOf {kb ci : Nat} {r : vw_C} (hkb : kb < 183) (hO : ∀ f, cellOf Θ kb f = .inr (ci, [])) (hrc : vwCl[ci]? = some r) {x : Int32} (ht : x = 4 ∨ x = 2 ∨ x = 0 → Q 1 (lay Θ S)) (hf : ¬ (x = 4 ∨ x = 2 ∨ x = 0) → Q 0 (lay Θ S)) : C Θ (d + 2) 0 0 yX6_isOf cX6_isOf 2 (some .boolean) [.ref (tb Θ + kb), .int x] 183 (lay Θ S) (Qi Q) := by
  refine C_of rfl rfl (Nat.le_of_ble_eq_true rfl) ?_
  refine E_iload_n dX6_isOf_0 rfl ?_
  refine E_ic (v := 4) dX6_isOf_1 (by decide) ?_
  refine E_icmp_eq dX6_isOf_2 (fun c2 => ?_) (fun c2 => ?_)
  · refine E_ic (v := 1) dX6_isOf_13 (by decide) ?_
    refine E_goto dX6_isOf_14 ?_
    refine E_iret dX6_isOf_18 rfl rfl ?_
    exact ht (by clear ht hf; simp_all)
  · refine E_aload_n dX6_isOf_5 rfl ?_
    refine E_iload_n dX6_isOf_6 rfl ?_
    refine E_U1i uX6_7 dX6_isOf_7 (Nat.le_of_ble_eq_true rfl) hkb (hO _) hrc (s_X1_isOf hkb hO hrc (fun g => ?_) (fun g => ?_))
    · refine E_if_eq dX6_isOf_10 (fun c => absurd c (by decide)) (fun _ => ?_)
      refine E_ic (v := 1) dX6_isOf_13 (by decide) ?_
      refine E_goto dX6_isOf_14 ?_
      refine E_iret dX6_isOf_18 rfl rfl ?_
      exact ht (by clear ht hf; simp_all)
    · refine E_if_eq dX6_isOf_10 (fun _ => ?_) (fun c => absurd (by decide) c)
      refine E_ic (v := 0) dX6_isOf_17 (by decide) ?_
      refine E_iret dX6_isOf_18 rfl rfl ?_
      exact hf (by clear ht hf; simp_all)
theorem s_X9_isOf {kb ci : Nat} {r : vw_C} (hkb : kb < 183) (hO : ∀ f, cellOf Θ kb f = .inr (ci, [])) (hrc : vwCl[ci]? = some r) {x : Int32} (ht : x = 3 ∨ x = 1 ∨ x = 0 → Q 1 (lay Θ S)) (hf : ¬ (x = 3 ∨ x = 1 ∨ x = 0) → Q 0 (lay Θ S)) : C Θ (d + 2) 0 0 yX9_isOf cX9_isOf 2 (some .boolean) [.ref (tb Θ + kb), .int x] 183 (lay Θ S) (Qi Q) := by
  refine C_of rfl rfl (Nat.le_of_ble_eq_true rfl) ?_
  refine E_iload_n dX9_isOf_0 rfl ?_
  refine E_ic (v := 3) dX9_isOf_1 (by decide) ?_
  refine E_icmp_eq dX9_isOf_2 (fun c2 => ?_) (fun c2 => ?_)
  · refine E_ic (v := 1) dX9_isOf_13 (by decide) ?_
    refine E_goto dX9_isOf_14 ?_
    refine E_iret dX9_isOf_18 rfl rfl ?_
    exact ht (by clear ht hf; simp_all)
  · refine E_aload_n dX9_isOf_5 rfl ?_
    refine E_iload_n dX9_isOf_6 rfl ?_
    refine E_U1i uX9_7 dX9_isOf_7 (Nat.le_of_ble_eq_true rfl) hkb (hO _) hrc (s_X2_isOf hkb hO hrc (fun g => ?_) (fun g => ?_))
    · refine E_if_eq dX9_isOf_10 (fun c => absurd c (by decide)) (fun _ => ?_)
      refine E_ic (v := 1) dX9_isOf_13 (by decide) ?_
      refine E_goto dX9_isOf_14 ?_
      refine E_iret dX9_isOf_18 rfl rfl ?_
      exact ht (by clear ht hf; simp_all)
    · refine E_if_eq dX9_isOf_10 (fun _ => ?_) (fun c => absurd (by decide) c)
      refine E_ic (v := 0) dX9_isOf_17 (by decide) ?_
      refine E_iret dX9_isOf_18 rfl rfl ?_
      exact hf (by clear ht hf; simp_all)
end Kinds
