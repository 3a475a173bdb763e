/-! the world's constructor -/
section Wi
variable {Θ : Th} {d w a : Nat} {F G : HP}
abbrev crA (Θ : Th) (w i : Nat) : va_E := rA Θ 4 9 (upto (fun j => tb Θ + (w + 4 + 2 * j)) i)
theorem l_X10_init {Q : QT} (h0 : F w = .inr (10, [.ref (tb Θ + (w + 1)), .int 0, .int 0, .int 0, .int 0, .int 0, .int 0, .int 1, .int 40, .ref (tb Θ + (w + 2)), .int 0, .int 1, .ref (tb Θ + (w + 3)), .int 0])) (hP : ∀ i, i < 9 → F (w + 4 + 2 * i) = .inr (4, [.ref a, .int 0, .int 0, .ref (tb Θ + (w + 4 + 2 * i + 1))]) ∧ F (w + 4 + 2 * i + 1) = iA Θ 0 6 (fun _ => 0)) (K : E Θ (d + 2) 21 106 yX10_init cX10_init 3 none 21 106 (w + 22) (va_up F (w + 1) (crA Θ w 9)) 75 [] [] Q) : ∀ k i, i + k = 9 → E Θ (d + 2) 21 106 yX10_init cX10_init 3 none (3 + 2 * i) (16 + 10 * i) (w + 4 + 2 * i) (va_up F (w + 1) (crA Θ w i)) 46 [(2, .int (nI i)), (0, .ref (tb Θ + w)), (1, .ref a)] [] Q := by
  intro k
  induction k with
  | zero =>
    intro i hi
    have e : i = 9 := by omega
    subst e
    refine E_iload_n dX10_init_46 rfl ?_
    refine E_aload_n dX10_init_47 rfl ?_
    refine E_get (k := w) fX10_11 dX10_init_48 (by omega) ((up_ne (by omega)).trans h0) rfl ?_
    refine E_alenR (k := w + 1) dX10_init_51 (by omega) up_at rfl ?_
    refine E_icmp_ge dX10_init_52 (fun _ => ?_) (fun c => absurd (by decide) c)
    exact E.loc (ls' := []) trivial (E.num (by omega) (by omega) (by omega) K)
  | succ k ih =>
    intro i hi
    have h9 : i < 9 := by omega
    obtain ⟨p1, p2⟩ := hP i h9
    refine E_iload_n dX10_init_46 rfl ?_
    refine E_aload_n dX10_init_47 rfl ?_
    refine E_get (k := w) fX10_11 dX10_init_48 (by omega) ((up_ne (by omega)).trans h0) rfl ?_
    refine E_alenR (k := w + 1) dX10_init_51 (by omega) up_at rfl ?_
    refine E_icmp_ge dX10_init_52 (fun c => absurd ((nI_leI (a := 9) (by omega) (by omega)).mp c) (by omega)) (fun _ => ?_)
    refine E_aload_n dX10_init_55 rfl ?_
    refine E_get (k := w) fX10_11 dX10_init_56 (by omega) ((up_ne (by omega)).trans h0) rfl ?_
    refine E_iload_n dX10_init_59 rfl ?_
    refine I_new (cl2 := 4 + 2 * i) (sl2 := 20 + 10 * i) (n2 := w + 4 + 2 * i + 1) K_4 lX10_9 dX10_init_60 (fun j hj => lt4 (P := fun j => defaultValue (tyX4 j) = vp_V [.null, .int 0, .int 0, .null] j) rfl rfl rfl rfl hj) (by omega) (by omega) (by omega) (by omega) (by omega) ?_
    refine E_dup dX10_init_63 rfl ?_
    refine E_aload_n dX10_init_64 rfl ?_
    refine I_call1 (cl2 := 5 + 2 * i) (sl2 := 26 + 10 * i) (n2 := w + 6 + 2 * i) iX10_37 dX10_init_65 (Nat.le_of_ble_eq_true rfl) (by omega) (by omega) (by omega) (by omega) (by omega) (s_X4_init (k := w + 4 + 2 * i) (F := va_up F (w + 1) (crA Θ w i)) (fun q hq => up_ne (by omega)) up_at ((up_ne (by omega)).trans p1) ((up_ne (by omega)).trans p2) ?_)
    refine E_aast (k := w + 1) (kv := w + 4 + 2 * i) (j := i) dX10_init_68 (by omega) up_at rfl rfl h9 (by decide) (by omega) ((up_ne (by omega)).trans p1) rfl (Or.inl rfl) ?_
    rw [up_up, upto_up]
    refine E_iinc (v := 1) dX10_init_69 rfl (by decide) (by decide) ?_
    refine E_goto dX10_init_72 ?_
    rw [nI_1]
    exact E.loc (ls' := [(2, .int (nI (i + 1))), (0, .ref (tb Θ + w)), (1, .ref a)]) ⟨rfl, rfl, rfl, trivial⟩ (E.num (by omega) (by omega) (by omega) (ih (i + 1) (by omega)))
theorem s_X10_init {Q : HP → Prop} (hG : ∀ q, q < w → G q = F q) (hk : G w = .inr (10, [.null, .int 0, .int 0, .int 0, .int 0, .int 0, .int 0, .int 0, .int 0, .null, .int 0, .int 0, .null, .int 0])) (h0 : F w = .inr (10, [.ref (tb Θ + (w + 1)), .int 0, .int 0, .int 0, .int 0, .int 0, .int 0, .int 1, .int 40, .ref (tb Θ + (w + 2)), .int 0, .int 1, .ref (tb Θ + (w + 3)), .int 0])) (h1 : F (w + 1) = crA Θ w 9) (h2 : F (w + 2) = iA Θ 0 4 (fun _ => 0)) (h3 : F (w + 3) = rA Θ 6 3 (fun _ => none)) (hP : ∀ i, i < 9 → F (w + 4 + 2 * i) = .inr (4, [.ref a, .int 0, .int 0, .ref (tb Θ + (w + 4 + 2 * i + 1))]) ∧ F (w + 4 + 2 * i + 1) = iA Θ 0 6 (fun _ => 0)) (hq : Q F) : C Θ (d + 2) 21 106 yX10_init cX10_init 3 none [.ref (tb Θ + w), .ref a] (w + 1) G (Qv Q) := by
  refine C_of rfl rfl (Nat.le_of_ble_eq_true rfl) ?_
  refine E_aload_n dX10_init_0 rfl ?_
  refine E_objInit oX10_3 w_oi w_oc dX10_init_1 (Nat.le_of_ble_eq_true rfl) ?_
  refine E_aload_n dX10_init_4 rfl ?_
  refine E_bipush (v := 9) dX10_init_5 (by decide) ?_
  refine E_newq (len := 9) (t := 4) lX10_9 (by decide) rfl dX10_init_7 rfl (by decide) (Nat.le_of_ble_eq_true rfl) (Nat.le_of_ble_eq_true rfl) ?_
  refine E_putF (k := w) pX10_11 dX10_init_10 rfl (by omega) ((up_ne (by omega)).trans hk) rfl rfl (Nat.le_of_ble_eq_true rfl) ?_
  refine E_aload_n dX10_init_13 rfl ?_
  refine E_ic (v := 1) dX10_init_14 (by decide) ?_
  refine E_put (k := w) fX10_17 dX10_init_15 (by omega) up_at rfl rfl (Nat.le_of_ble_eq_true rfl) ?_
  refine E_aload_n dX10_init_18 rfl ?_
  refine E_bipush (v := 40) dX10_init_19 (by decide) ?_
  refine E_put (k := w) fX10_21 dX10_init_21 (by omega) up_at rfl rfl (Nat.le_of_ble_eq_true rfl) ?_
  refine E_aload_n dX10_init_24 rfl ?_
  refine E_ic (v := 4) dX10_init_25 (by decide) ?_
  refine E_newi (len := 4) ac_int dX10_init_26 rfl (by decide) (Nat.le_of_ble_eq_true rfl) (Nat.le_of_ble_eq_true rfl) ?_
  refine E_putF (k := w) pX10_24 dX10_init_28 rfl (by omega) ((up_ne (by omega)).trans up_at) rfl rfl (Nat.le_of_ble_eq_true rfl) ?_
  refine E_aload_n dX10_init_31 rfl ?_
  refine E_ic (v := 1) dX10_init_32 (by decide) ?_
  refine E_put (k := w) fX10_28 dX10_init_33 (by omega) up_at rfl rfl (Nat.le_of_ble_eq_true rfl) ?_
  refine E_aload_n dX10_init_36 rfl ?_
  refine E_ic (v := 3) dX10_init_37 (by decide) ?_
  refine E_newq (len := 3) (t := 6) lX10_31 (by decide) rfl dX10_init_38 rfl (by decide) (Nat.le_of_ble_eq_true rfl) (Nat.le_of_ble_eq_true rfl) ?_
  refine E_putF (k := w) pX10_33 dX10_init_41 rfl (by omega) ((up_ne (by omega)).trans up_at) rfl rfl (Nat.le_of_ble_eq_true rfl) ?_
  refine E_ic (v := 0) dX10_init_44 (by decide) ?_
  refine E_istore_n dX10_init_45 (by decide) ?_
  refine E.heap (G' := va_up F (w + 1) (crA Θ w 0)) (fun q hq2 => ?_) ?_
  · rcases (show q < w ∨ q = w ∨ q = w + 1 ∨ q = w + 2 ∨ q = w + 3 by omega) with h | rfl | rfl | rfl | rfl
    · simp only [va_up]
      simp only [show q ≠ w from by omega, show q ≠ w + 1 from by omega, show q ≠ w + 1 + 1 from by omega, show q ≠ w + 1 + 1 + 1 from by omega, if_false]
      exact hG q h
    · rw [up_at, up_ne (by omega), h0]; rfl
    · rw [up_at, crA, upto_0]
      simp only [va_up]
      simp
    · rw [up_ne (k := w + 1) (by omega), h2]
      simp only [va_up]
      simp
    · rw [up_ne (k := w + 1) (by omega), h3]
      simp only [va_up]
      simp
  · refine E.loc (ls' := [(2, .int (nI 0)), (0, .ref (tb Θ + w)), (1, .ref a)]) ⟨rfl, rfl, rfl, trivial⟩ ?_
    refine E.num (cl2 := 3 + 2 * 0) (sl2 := 16 + 10 * 0) (n2 := w + 4 + 2 * 0) rfl rfl rfl (l_X10_init h0 hP ?_ 9 0 rfl)
    rw [up_id h1]
    exact E_vret dX10_init_75 rfl rfl hq
end Wi
