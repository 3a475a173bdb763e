/-! the reference's own methods over its row of a world -/
theorem ne_toInt {x c : Int32} {k : Int} (hc : c.toInt = k) (h : ¬ x = c) : x.toInt ≠ k := fun e => h (Int32.toInt_inj.mp (e.trans hc.symm))
def MF (S S' : SS) : Prop := ∀ k, k ≠ 160 → k ≠ 172 → k ≠ 173 → S' k = S k
theorem MF.rf {S : SS} : MF S S := fun _ _ _ _ => rfl
theorem MF.tr {S S' S'' : SS} (h : MF S S') (h' : MF S' S'') : MF S S'' := fun k a b c => (h' k a b c).trans (h k a b c)
theorem wr_at {S : SS} {k j : Nat} {x : Int32} : wr S k j x k = upd (S k) j x := by simp [wr, va_up]
theorem wr_ne {S : SS} {k k' j : Nat} {x : Int32} (h : k' ≠ k) : wr S k j x k' = S k' := by simp [wr, va_up, h]
theorem MF.w0 {S : SS} {j : Nat} {x : Int32} : MF S (wr S 160 j x) := fun k a _ _ => wr_ne a
theorem MF.w2 {S : SS} {j : Nat} {x : Int32} : MF S (wr S 172 j x) := fun k _ a _ => wr_ne a
theorem MF.w3 {S : SS} {j : Nat} {x : Int32} : MF S (wr S 173 j x) := fun k _ _ a => wr_ne a
theorem ofI (p w : Nat) : (15 : Int32) + 9 * nI p + nI w = nI (15 + 9 * p + w) := by
  rw [show (15 : Int32) = nI 15 from rfl, show (9 : Int32) = nI 9 from rfl, pk_mul, nI_add, nI_add]
theorem vwI (j : Nat) : (3 : Int32) + nI j = nI (3 + j) := by
  rw [show (3 : Int32) = nI 3 from rfl, nI_add]
theorem txI (t : Nat) : (96 : Int32) + 2 * nI t = nI (96 + 2 * t) := by
  rw [show (96 : Int32) = nI 96 from rfl, show (2 : Int32) = nI 2 from rfl, pk_mul, nI_add]
section Ref
variable {Θ : Th} {d : Nat} {S : SS} {v : WV}
theorem N_iald {mc ms : Nat} {y : MethodName} {cc : ByteArray} {nL : Nat} {ret : Option FieldType} {cl sl pc pc' : Nat} {ls : LV} {st : List Value} {Q : QT} {j : Nat} {x : Int32} (hd : Dc cc pc .iaload 1 pc') (hx : x = nI j) (hj : j < 1468) (hv : S 160 = v) (K : E Θ d mc ms y cc nL ret cl sl 183 (lay Θ S) pc' ls (.int (v j) :: st) Q) : E Θ d mc ms y cc nL ret cl sl 183 (lay Θ S) pc ls (.int x :: .ref (tb Θ + 160) :: st) Q := by
  refine L_iald (j := j) hd (by decide) sh_160 hx hj (by decide) ?_
  rw [hv]
  exact K
theorem N_iast {mc ms : Nat} {y : MethodName} {cc : ByteArray} {nL : Nat} {ret : Option FieldType} {cl sl pc pc' : Nat} {ls : LV} {st : List Value} {Q : QT} {j : Nat} {x x0 : Int32} (hd : Dc cc pc .iastore 1 pc') (hx : x = nI j) (hj : j < 1468) (hv : S 160 = v) (K : ∀ S', S' 160 = upd v j x0 → MF S S' → E Θ d mc ms y cc nL ret cl sl 183 (lay Θ S') pc' ls st Q) : E Θ d mc ms y cc nL ret cl sl 183 (lay Θ S) pc ls (.int x0 :: .int x :: .ref (tb Θ + 160) :: st) Q := by
  refine L_iast (j := j) hd (by decide) sh_160 hx hj (by decide) ?_
  exact K _ (by rw [wr_at, hv]) MF.w0
theorem s_X12_of {Q : Int32 → HP → Prop} {x y : Int32} (hv : S 160 = v) (p w : Nat) (j : Nat) (hx : x = nI p) (hy : y = nI w) (hb : 15 + 9 * p + w < 1468) (hj : 15 + 9 * p + w = j) (hq : Q (v j) (lay Θ S)) : C Θ d 0 0 yX12_of cX12_of 3 (some .int) [.ref (tb Θ + 159), .int x, .int y] 183 (lay Θ S) (Qi Q) := by
  refine C_of rfl rfl (Nat.le_of_ble_eq_true rfl) ?_
  refine E_aload_n dX12_of_0 rfl ?_
  refine L_get fX12_9 dX12_of_1 (by decide) sh_159 rfl ?_
  refine E_bipush (v := 15) dX12_of_4 (by decide) ?_
  refine E_bipush (v := 9) dX12_of_6 (by decide) ?_
  refine E_iload_n dX12_of_8 rfl ?_
  refine E_imul dX12_of_9 ?_
  refine E_iadd dX12_of_10 ?_
  refine E_iload_n dX12_of_11 rfl ?_
  refine E_iadd dX12_of_12 ?_
  refine L_iald (j := 15 + 9 * p + w) dX12_of_13 (by decide) sh_160 (by rw [hx, hy]; exact ofI p w) hb (by decide) ?_
  refine E_iret dX12_of_14 rfl rfl ?_
  rw [hv, hj]
  exact hq
theorem s_X12_put {Q : HP → Prop} {x y z : Int32} (hv : S 160 = v) (p w : Nat) (j : Nat) (hx : x = nI p) (hy : y = nI w) (hb : 15 + 9 * p + w < 1468) (hj : 15 + 9 * p + w = j) (hq : ∀ S', S' 160 = upd v j z → MF S S' → Q (lay Θ S')) : C Θ d 0 0 yX12_put cX12_put 4 none [.ref (tb Θ + 159), .int x, .int y, .int z] 183 (lay Θ S) (Qv Q) := by
  refine C_of rfl rfl (Nat.le_of_ble_eq_true rfl) ?_
  refine E_aload_n dX12_put_0 rfl ?_
  refine L_get fX12_9 dX12_put_1 (by decide) sh_159 rfl ?_
  refine E_bipush (v := 15) dX12_put_4 (by decide) ?_
  refine E_bipush (v := 9) dX12_put_6 (by decide) ?_
  refine E_iload_n dX12_put_8 rfl ?_
  refine E_imul dX12_put_9 ?_
  refine E_iadd dX12_put_10 ?_
  refine E_iload_n dX12_put_11 rfl ?_
  refine E_iadd dX12_put_12 ?_
  refine E_iload_n dX12_put_13 rfl ?_
  refine L_iast (j := 15 + 9 * p + w) dX12_put_14 (by decide) sh_160 (by rw [hx, hy]; exact ofI p w) hb (by decide) ?_
  refine E_vret dX12_put_15 rfl rfl ?_
  exact hq _ (by rw [wr_at, hv, hj]) MF.w0
theorem s_X12_swaps {Q : Int32 → HP → Prop} {x z : Int32} (hv : S 160 = v) (j : Nat) (hx : x = nI j) (hb : j < 1468) (hq : ∀ S', S' 160 = upd v j z → MF S S' → Q (v j) (lay Θ S')) : C Θ d 0 0 yX12_swaps cX12_swaps 4 (some .int) [.ref (tb Θ + 159), .int x, .int z] 183 (lay Θ S) (Qi Q) := by
  refine C_of rfl rfl (Nat.le_of_ble_eq_true rfl) ?_
  refine E_aload_n dX12_swaps_0 rfl ?_
  refine L_get fX12_9 dX12_swaps_1 (by decide) sh_159 rfl ?_
  refine E_iload_n dX12_swaps_4 rfl ?_
  refine L_iald (j := j) dX12_swaps_5 (by decide) sh_160 hx hb (by decide) ?_
  refine E_istore_n dX12_swaps_6 (by decide) ?_
  refine E_aload_n dX12_swaps_7 rfl ?_
  refine L_get fX12_9 dX12_swaps_8 (by decide) sh_159 rfl ?_
  refine E_iload_n dX12_swaps_11 rfl ?_
  refine E_iload_n dX12_swaps_12 rfl ?_
  refine L_iast (j := j) dX12_swaps_13 (by decide) sh_160 hx hb (by decide) ?_
  refine E_iload_n dX12_swaps_14 rfl ?_
  refine E_iret dX12_swaps_15 rfl rfl ?_
  rw [hv]
  exact hq _ (by rw [wr_at, hv]) MF.w0
theorem s_X12_apart {Q : Int32 → HP → Prop} {x y z : Int32} (hv : S 160 = v) (p o j : Nat) (hp : x = nI p) (ho : y = nI o) (hj : z = nI j) (hp9 : p < 9) (ho9 : o < 9) (hj6 : j < 6) (hq : Q (apV v p o j) (lay Θ S)) : C Θ (d + 1) 0 0 yX12_apart cX12_apart 5 (some .int) [.ref (tb Θ + 159), .int x, .int y, .int z] 183 (lay Θ S) (Qi Q) := by
  refine C_of rfl rfl (Nat.le_of_ble_eq_true rfl) ?_
  refine E_aload_n dX12_apart_0 rfl ?_
  refine E_iload_n dX12_apart_1 rfl ?_
  refine E_ic (v := 3) dX12_apart_2 (by decide) ?_
  refine E_iload_n dX12_apart_3 rfl ?_
  refine E_iadd dX12_apart_4 ?_
  refine E_V2i vX12_85_12 dX12_apart_5 (Nat.le_of_ble_eq_true rfl) (by decide) (sh_159 _) (s_X12_of hv p (3 + j) (18 + 9 * p + j) hp (by rw [hj]; exact vwI j) (by omega) (by omega) ?_)
  refine E_aload_n dX12_apart_8 rfl ?_
  refine E_iload_n dX12_apart_9 rfl ?_
  refine E_ic (v := 3) dX12_apart_10 (by decide) ?_
  refine E_iload_n dX12_apart_11 rfl ?_
  refine E_iadd dX12_apart_12 ?_
  refine E_V2i vX12_85_12 dX12_apart_13 (Nat.le_of_ble_eq_true rfl) (by decide) (sh_159 _) (s_X12_of hv o (3 + j) (18 + 9 * o + j) ho (by rw [hj]; exact vwI j) (by omega) (by omega) ?_)
  refine E_isub dX12_apart_16 ?_
  refine E_istore dX12_apart_17 (by decide) ?_
  refine E_iload dX12_apart_19 rfl ?_
  refine E_if_ge dX12_apart_21 (fun c21 => ?_) (fun c21 => ?_)
  · refine E_iload dX12_apart_30 rfl ?_
    refine E_iret dX12_apart_32 rfl rfl ?_
    simpa [apV, apF, vwF, c21, (i_lt c21)] using hq
  · refine E_iload dX12_apart_24 rfl ?_
    refine E_ineg dX12_apart_26 ?_
    refine E_goto dX12_apart_27 ?_
    refine E_iret dX12_apart_32 rfl rfl ?_
    simpa [apV, apF, vwF, c21, (i_nle c21)] using hq
theorem l_X12_counts {Q : Int32 → HP → Prop} {key : Int32} (hv : S 160 = v)  : ∀ (f : Nat) (x : Int32), x = nI f - 1 → f ≤ 14 → Q (cntF v key f) (lay Θ S) → E Θ d 0 0 yX12_counts cX12_counts 3 (some .int) 0 0 183 (lay Θ S) 10 [(2, .int x), (1, .int key), (0, .ref (tb Θ + 159))] [] (Qi Q) := by
  intro f
  induction f with
  | zero =>
    intro x hx _ hq
    rw [show nI 0 - 1 = (-1 : Int32) from by decide] at hx
    subst hx
    refine E_iload_n dX12_counts_10 rfl ?_
    refine E_if_lt dX12_counts_11 (fun _ => ?_) (fun c => absurd (by decide) c)
    refine E_ic (v := (-1)) dX12_counts_41 (by decide) ?_
    refine E_iret dX12_counts_42 rfl rfl ?_
    exact hq
  | succ f ih =>
    intro x hx hf hq
    rw [nI_pred] at hx
    subst hx
    refine E_iload_n dX12_counts_10 rfl ?_
    refine E_if_lt dX12_counts_11 (fun c => absurd c (nI_pos (by omega))) (fun _ => ?_)
    refine E_aload_n dX12_counts_14 rfl ?_
    refine L_get fX12_9 dX12_counts_15 (by decide) sh_159 rfl ?_
    refine E_bipush (v := 96) dX12_counts_18 (by decide) ?_
    refine E_ic (v := 2) dX12_counts_20 (by decide) ?_
    refine E_iload_n dX12_counts_21 rfl ?_
    refine E_imul dX12_counts_22 ?_
    refine E_iadd dX12_counts_23 ?_
    refine L_iald (j := 96 + 2 * f) dX12_counts_24 (by decide) sh_160 (txI f) (by omega) (by decide) ?_
    refine E_sipush (v := 1000) dX12_counts_25 (by decide) ?_
    refine E_idiv dX12_counts_28 (by decide) ?_
    refine E_iload_n dX12_counts_29 rfl ?_
    refine E_icmp_ne dX12_counts_30 (fun c30 => ?_) (fun c30 => ?_)
    · refine E_iinc (v := (-1)) dX12_counts_35 rfl (by decide) (by decide) ?_
      refine E_goto dX12_counts_38 ?_
      exact E.loc (by exact ⟨rfl, rfl, rfl, trivial⟩) (ih (nI f + (-1)) (by rw [Int32.sub_eq_add_neg]) (by omega) (by rw [cntF, if_neg (by rw [← hv]; exact c30)] at hq; exact hq))
    · refine E_iload_n dX12_counts_33 rfl ?_
      refine E_iret dX12_counts_34 rfl rfl ?_
      rw [cntF, if_pos (by rw [← hv]; exact c30)] at hq
      exact hq
theorem s_X12_counts {Q : Int32 → HP → Prop} {key : Int32} (hv : S 160 = v) {t : Nat} (ht : v 14 = nI t) (ht14 : t ≤ 14) (hq : Q (lawF v key) (lay Θ S)) : C Θ d 0 0 yX12_counts cX12_counts 3 (some .int) [.ref (tb Θ + 159), .int key] 183 (lay Θ S) (Qi Q) := by
  refine C_of rfl rfl (Nat.le_of_ble_eq_true rfl) ?_
  refine E_aload_n dX12_counts_0 rfl ?_
  refine L_get fX12_9 dX12_counts_1 (by decide) sh_159 rfl ?_
  refine E_bipush (v := 14) dX12_counts_4 (by decide) ?_
  refine L_iald (j := 14) dX12_counts_6 (by decide) sh_160 rfl (by decide) (by decide) ?_
  refine E_ic (v := 1) dX12_counts_7 (by decide) ?_
  refine E_isub dX12_counts_8 ?_
  refine E_istore_n dX12_counts_9 (by decide) ?_
  rw [hv]
  exact E.loc (by exact ⟨rfl, rfl, rfl, trivial⟩) (l_X12_counts hv t (v 14 - 1) (by rw [ht]) ht14 (by rw [lawF, tN, ht, nI_clamp (by omega)] at hq; exact hq))
theorem s_X12_heats {Q : Int32 → HP → Prop} {x y z : Int32} (hv : S 160 = v) (p o j : Nat) (hp : x = nI p) (ho : y = nI o) (hj : z = nI j) (hp9 : p < 9) (ho9 : o < 9) (hj6 : j < 6) (hq : Q (htV v p o j) (lay Θ S)) : C Θ (d + 2) 0 0 yX12_heats cX12_heats 5 (some .int) [.ref (tb Θ + 159), .int x, .int y, .int z] 183 (lay Θ S) (Qi Q) := by
  refine C_of rfl rfl (Nat.le_of_ble_eq_true rfl) ?_
  refine E_aload_n dX12_heats_0 rfl ?_
  refine E_iload_n dX12_heats_1 rfl ?_
  refine E_iload_n dX12_heats_2 rfl ?_
  refine E_iload_n dX12_heats_3 rfl ?_
  refine E_V3i vX12_89_12 dX12_heats_4 (Nat.le_of_ble_eq_true rfl) (by decide) (sh_159 _) (s_X12_apart hv p o j hp ho hj hp9 ho9 hj6 ?_)
  refine E_istore dX12_heats_7 (by decide) ?_
  refine E_aload_n dX12_heats_9 rfl ?_
  refine E_iload_n dX12_heats_10 rfl ?_
  refine E_ic (v := 0) dX12_heats_11 (by decide) ?_
  refine E_V2i vX12_85_12 dX12_heats_12 (Nat.le_of_ble_eq_true rfl) (by decide) (sh_159 _) (s_X12_of hv p (0) (15 + 9 * p) hp rfl (by omega) (by omega) ?_)
  refine E_top (fun x15 hx15 => ?_)
  by_cases k15_1 : x15 = 1
  · refine E_tswI (tgt := 48) dX12_heats_15 0 (by rw [k15_1]; decide) (by decide) rfl (by decide) ?_
    refine E_ic (v := 2) dX12_heats_48 (by decide) ?_
    refine E_iload dX12_heats_49 rfl ?_
    refine E_imul dX12_heats_51 ?_
    refine E_iret dX12_heats_52 rfl rfl ?_
    first | (simpa [htV, htF, kdF, ← hx15, k15_1] using hq) | (simp_all [htV, htF, kdF])
  by_cases k15_2 : x15 = 2
  · refine E_tswI (tgt := 53) dX12_heats_15 1 (by rw [k15_2]; decide) (by decide) rfl (by decide) ?_
    refine E_iload dX12_heats_53 rfl ?_
    refine E_ic (v := 2) dX12_heats_55 (by decide) ?_
    refine E_idiv dX12_heats_56 (by decide) ?_
    refine E_iret dX12_heats_57 rfl rfl ?_
    first | (simpa [htV, htF, kdF, ← hx15, k15_1, k15_2] using hq) | (simp_all [htV, htF, kdF])
  by_cases k15_3 : x15 = 3
  · refine E_tswI (tgt := 58) dX12_heats_15 2 (by rw [k15_3]; decide) (by decide) rfl (by decide) ?_
    refine E_ic (v := 2) dX12_heats_58 (by decide) ?_
    refine E_iload dX12_heats_59 rfl ?_
    refine E_imul dX12_heats_61 ?_
    refine E_ic (v := 1) dX12_heats_62 (by decide) ?_
    refine E_isub dX12_heats_63 ?_
    refine E_ic (v := 0) dX12_heats_64 (by decide) ?_
    refine E_bipush (v := 99) dX12_heats_65 (by decide) ?_
    refine E_S3i sX12_100 dX12_heats_67 (Nat.le_of_ble_eq_true rfl) (s_X12_within ?_)
    refine E_iret dX12_heats_70 rfl rfl ?_
    first | (simpa [htV, htF, kdF, ← hx15, k15_1, k15_2, k15_3] using hq) | (simp_all [htV, htF, kdF])
  by_cases k15_4 : x15 = 4
  · refine E_tswI (tgt := 53) dX12_heats_15 3 (by rw [k15_4]; decide) (by decide) rfl (by decide) ?_
    refine E_iload dX12_heats_53 rfl ?_
    refine E_ic (v := 2) dX12_heats_55 (by decide) ?_
    refine E_idiv dX12_heats_56 (by decide) ?_
    refine E_iret dX12_heats_57 rfl rfl ?_
    first | (simpa [htV, htF, kdF, ← hx15, k15_1, k15_2, k15_3, k15_4] using hq) | (simp_all [htV, htF, kdF])
  by_cases k15_5 : x15 = 5
  · refine E_tswI (tgt := 71) dX12_heats_15 4 (by rw [k15_5]; decide) (by decide) rfl (by decide) ?_
    refine E_ic (v := 0) dX12_heats_71 (by decide) ?_
    refine E_iret dX12_heats_72 rfl rfl ?_
    first | (simpa [htV, htF, kdF, ← hx15, k15_1, k15_2, k15_3, k15_4, k15_5] using hq) | (simp_all [htV, htF, kdF])
  refine E_tswO (tgt := 73) dX12_heats_15 (by have := ne_toInt (k := 1) (by decide) k15_1; have := ne_toInt (k := 2) (by decide) k15_2; have := ne_toInt (k := 3) (by decide) k15_3; have := ne_toInt (k := 4) (by decide) k15_4; have := ne_toInt (k := 5) (by decide) k15_5; omega) (by decide) ?_
  refine E_iload dX12_heats_73 rfl ?_
  refine E_iret dX12_heats_75 rfl rfl ?_
  first | (simpa [htV, htF, kdF, ← hx15, k15_1, k15_2, k15_3, k15_4, k15_5] using hq) | (simp_all [htV, htF, kdF])
theorem s_X12_shifts {Q : Int32 → HP → Prop} {x y z : Int32} (hv : S 160 = v) (p o j : Nat) (hp : x = nI p) (ho : y = nI o) (hj : z = nI j) (hp9 : p < 9) (ho9 : o < 9) (hj6 : j < 6) (hq : Q (shV v p o j) (lay Θ S)) : C Θ (d + 2) 0 0 yX12_shifts cX12_shifts 6 (some .int) [.ref (tb Θ + 159), .int x, .int y, .int z] 183 (lay Θ S) (Qi Q) := by
  refine C_of rfl rfl (Nat.le_of_ble_eq_true rfl) ?_
  refine E_aload_n dX12_shifts_0 rfl ?_
  refine E_iload_n dX12_shifts_1 rfl ?_
  refine E_ic (v := 3) dX12_shifts_2 (by decide) ?_
  refine E_iload_n dX12_shifts_3 rfl ?_
  refine E_iadd dX12_shifts_4 ?_
  refine E_V2i vX12_85_12 dX12_shifts_5 (Nat.le_of_ble_eq_true rfl) (by decide) (sh_159 _) (s_X12_of hv p (3 + j) (18 + 9 * p + j) hp (by rw [hj]; exact vwI j) (by omega) (by omega) ?_)
  refine E_istore dX12_shifts_8 (by decide) ?_
  refine E_aload_n dX12_shifts_10 rfl ?_
  refine E_iload_n dX12_shifts_11 rfl ?_
  refine E_ic (v := 3) dX12_shifts_12 (by decide) ?_
  refine E_iload_n dX12_shifts_13 rfl ?_
  refine E_iadd dX12_shifts_14 ?_
  refine E_V2i vX12_85_12 dX12_shifts_15 (Nat.le_of_ble_eq_true rfl) (by decide) (sh_159 _) (s_X12_of hv o (3 + j) (18 + 9 * o + j) ho (by rw [hj]; exact vwI j) (by omega) (by omega) ?_)
  refine E_istore dX12_shifts_18 (by decide) ?_
  refine E_aload_n dX12_shifts_20 rfl ?_
  refine E_iload_n dX12_shifts_21 rfl ?_
  refine E_ic (v := 0) dX12_shifts_22 (by decide) ?_
  refine E_V2i vX12_85_12 dX12_shifts_23 (Nat.le_of_ble_eq_true rfl) (by decide) (sh_159 _) (s_X12_of hv p (0) (15 + 9 * p) hp rfl (by omega) (by omega) ?_)
  refine E_top (fun x26 hx26 => ?_)
  by_cases k26_2 : x26 = 2
  · refine E_tswI (tgt := 56) dX12_shifts_26 0 (by rw [k26_2]; decide) (by decide) rfl (by decide) ?_
    refine E_iload dX12_shifts_56 rfl ?_
    refine E_iload dX12_shifts_58 rfl ?_
    refine E_icmp_ne dX12_shifts_60 (fun c60 => ?_) (fun c60 => ?_)
    · refine E_iload dX12_shifts_81 rfl ?_
      refine E_iload dX12_shifts_83 rfl ?_
      refine E_icmp_le dX12_shifts_85 (fun c85 => ?_) (fun c85 => ?_)
      · refine E_iload dX12_shifts_95 rfl ?_
        refine E_ic (v := 1) dX12_shifts_97 (by decide) ?_
        refine E_isub dX12_shifts_98 ?_
        refine E_bipush (v := (-3)) dX12_shifts_99 (by decide) ?_
        refine E_ic (v := 3) dX12_shifts_101 (by decide) ?_
        refine E_S3i sX12_100 dX12_shifts_102 (Nat.le_of_ble_eq_true rfl) (s_X12_within ?_)
        refine E_iret dX12_shifts_105 rfl rfl ?_
        first | (simpa [shV, shF, kdF, vwF, ← hx26, k26_2, c60, c85, (i_lt c85)] using hq) | (simp_all [shV, shF, kdF, vwF])
      · refine E_iload dX12_shifts_88 rfl ?_
        refine E_ic (v := 1) dX12_shifts_90 (by decide) ?_
        refine E_iadd dX12_shifts_91 ?_
        refine E_goto dX12_shifts_92 ?_
        refine E_bipush (v := (-3)) dX12_shifts_99 (by decide) ?_
        refine E_ic (v := 3) dX12_shifts_101 (by decide) ?_
        refine E_S3i sX12_100 dX12_shifts_102 (Nat.le_of_ble_eq_true rfl) (s_X12_within ?_)
        refine E_iret dX12_shifts_105 rfl rfl ?_
        first | (simpa [shV, shF, kdF, vwF, ← hx26, k26_2, c60, c85, (i_nle c85)] using hq) | (simp_all [shV, shF, kdF, vwF])
    · refine E_iload dX12_shifts_63 rfl ?_
      refine E_ic (v := 3) dX12_shifts_65 (by decide) ?_
      refine E_icmp_ne dX12_shifts_66 (fun c66 => ?_) (fun c66 => ?_)
      · refine E_iload dX12_shifts_74 rfl ?_
        refine E_ic (v := 1) dX12_shifts_76 (by decide) ?_
        refine E_iadd dX12_shifts_77 ?_
        refine E_goto dX12_shifts_78 ?_
        refine E_iret dX12_shifts_105 rfl rfl ?_
        first | (simpa [shV, shF, kdF, vwF, ← hx26, k26_2, c60, c66] using hq) | (simp_all [shV, shF, kdF, vwF])
      · refine E_bipush (v := (-3)) dX12_shifts_69 (by decide) ?_
        refine E_goto dX12_shifts_71 ?_
        refine E_iret dX12_shifts_105 rfl rfl ?_
        first | (simpa [shV, shF, kdF, vwF, ← hx26, k26_2, c60, c66] using hq) | (simp_all [shV, shF, kdF, vwF])
  by_cases k26_3 : x26 = 3
  · refine E_tswI (tgt := 106) dX12_shifts_26 1 (by rw [k26_3]; decide) (by decide) rfl (by decide) ?_
    refine E_iload dX12_shifts_106 rfl ?_
    refine E_iret dX12_shifts_108 rfl rfl ?_
    first | (simpa [shV, shF, kdF, vwF, ← hx26, k26_2, k26_3] using hq) | (simp_all [shV, shF, kdF, vwF])
  by_cases k26_4 : x26 = 4
  · refine E_tswI (tgt := 109) dX12_shifts_26 2 (by rw [k26_4]; decide) (by decide) rfl (by decide) ?_
    refine E_iload dX12_shifts_109 rfl ?_
    refine E_iret dX12_shifts_111 rfl rfl ?_
    first | (simpa [shV, shF, kdF, vwF, ← hx26, k26_2, k26_3, k26_4] using hq) | (simp_all [shV, shF, kdF, vwF])
  by_cases k26_5 : x26 = 5
  · refine E_tswI (tgt := 109) dX12_shifts_26 3 (by rw [k26_5]; decide) (by decide) rfl (by decide) ?_
    refine E_iload dX12_shifts_109 rfl ?_
    refine E_iret dX12_shifts_111 rfl rfl ?_
    first | (simpa [shV, shF, kdF, vwF, ← hx26, k26_2, k26_3, k26_4, k26_5] using hq) | (simp_all [shV, shF, kdF, vwF])
  refine E_tswO (tgt := 112) dX12_shifts_26 (by have := ne_toInt (k := 2) (by decide) k26_2; have := ne_toInt (k := 3) (by decide) k26_3; have := ne_toInt (k := 4) (by decide) k26_4; have := ne_toInt (k := 5) (by decide) k26_5; omega) (by decide) ?_
  refine E_iload dX12_shifts_112 rfl ?_
  refine E_iload dX12_shifts_114 rfl ?_
  refine E_icmp_ge dX12_shifts_116 (fun c116 => ?_) (fun c116 => ?_)
  · refine E_iload dX12_shifts_126 rfl ?_
    refine E_iload dX12_shifts_128 rfl ?_
    refine E_icmp_le dX12_shifts_130 (fun c130 => ?_) (fun c130 => ?_)
    · refine E_iload dX12_shifts_140 rfl ?_
      refine E_iret dX12_shifts_142 rfl rfl ?_
      first | (simpa [shV, shF, kdF, vwF, ← hx26, k26_2, k26_3, k26_4, k26_5, c116, (i_lt c116), c130, (i_lt c130)] using hq) | (simp_all [shV, shF, kdF, vwF])
    · refine E_iload dX12_shifts_133 rfl ?_
      refine E_ic (v := 1) dX12_shifts_135 (by decide) ?_
      refine E_isub dX12_shifts_136 ?_
      refine E_goto dX12_shifts_137 ?_
      refine E_iret dX12_shifts_142 rfl rfl ?_
      first | (simpa [shV, shF, kdF, vwF, ← hx26, k26_2, k26_3, k26_4, k26_5, c116, (i_lt c116), c130, (i_nle c130)] using hq) | (simp_all [shV, shF, kdF, vwF])
  · refine E_iload dX12_shifts_119 rfl ?_
    refine E_ic (v := 1) dX12_shifts_121 (by decide) ?_
    refine E_iadd dX12_shifts_122 ?_
    refine E_goto dX12_shifts_123 ?_
    refine E_iret dX12_shifts_142 rfl rfl ?_
    first | (simpa [shV, shF, kdF, vwF, ← hx26, k26_2, k26_3, k26_4, k26_5, c116, (i_nle c116)] using hq) | (simp_all [shV, shF, kdF, vwF])
theorem s_X12_worthOf {Q : Int32 → HP → Prop} {x : Int32} (hv : S 160 = v) (p : Nat) (hp : x = nI p) (hp9 : p < 9) (hq : Q (woF (kdF v p) (tmF v p)) (lay Θ S)) : C Θ (d + 1) 0 0 yX12_worthOf cX12_worthOf 3 (some .int) [.ref (tb Θ + 159), .int x] 183 (lay Θ S) (Qi Q) := by
  refine C_of rfl rfl (Nat.le_of_ble_eq_true rfl) ?_
  refine E_aload_n dX12_worthOf_0 rfl ?_
  refine E_iload_n dX12_worthOf_1 rfl ?_
  refine E_ic (v := 2) dX12_worthOf_2 (by decide) ?_
  refine E_V2i vX12_85_12 dX12_worthOf_3 (Nat.le_of_ble_eq_true rfl) (by decide) (sh_159 _) (s_X12_of hv p (2) (17 + 9 * p) hp rfl (by omega) (by omega) ?_)
  refine E_istore_n dX12_worthOf_6 (by decide) ?_
  refine E_aload_n dX12_worthOf_7 rfl ?_
  refine E_iload_n dX12_worthOf_8 rfl ?_
  refine E_ic (v := 0) dX12_worthOf_9 (by decide) ?_
  refine E_V2i vX12_85_12 dX12_worthOf_10 (Nat.le_of_ble_eq_true rfl) (by decide) (sh_159 _) (s_X12_of hv p (0) (15 + 9 * p) hp rfl (by omega) (by omega) ?_)
  refine E_top (fun x13 hx13 => ?_)
  by_cases k13_1 : x13 = 1
  · refine E_tswI (tgt := 48) dX12_worthOf_13 0 (by rw [k13_1]; decide) (by decide) rfl (by decide) ?_
    refine E_iload_n dX12_worthOf_48 rfl ?_
    refine E_ic (v := 4) dX12_worthOf_49 (by decide) ?_
    refine E_iadd dX12_worthOf_50 ?_
    refine E_iret dX12_worthOf_51 rfl rfl ?_
    first | (simpa [woF, kdF, tmF, ← hx13, k13_1] using hq) | (simp_all [woF, kdF, tmF])
  by_cases k13_2 : x13 = 2
  · refine E_tswI (tgt := 52) dX12_worthOf_13 1 (by rw [k13_2]; decide) (by decide) rfl (by decide) ?_
    refine E_bipush (v := 120) dX12_worthOf_52 (by decide) ?_
    refine E_iload_n dX12_worthOf_54 rfl ?_
    refine E_isub dX12_worthOf_55 ?_
    refine E_iret dX12_worthOf_56 rfl rfl ?_
    first | (simpa [woF, kdF, tmF, ← hx13, k13_1, k13_2] using hq) | (simp_all [woF, kdF, tmF])
  by_cases k13_3 : x13 = 3
  · refine E_tswI (tgt := 57) dX12_worthOf_13 2 (by rw [k13_3]; decide) (by decide) rfl (by decide) ?_
    refine E_ic (v := 2) dX12_worthOf_57 (by decide) ?_
    refine E_iload_n dX12_worthOf_58 rfl ?_
    refine E_ic (v := 4) dX12_worthOf_59 (by decide) ?_
    refine E_iadd dX12_worthOf_60 ?_
    refine E_imul dX12_worthOf_61 ?_
    refine E_iret dX12_worthOf_62 rfl rfl ?_
    first | (simpa [woF, kdF, tmF, ← hx13, k13_1, k13_2, k13_3] using hq) | (simp_all [woF, kdF, tmF])
  by_cases k13_4 : x13 = 4
  · refine E_tswI (tgt := 63) dX12_worthOf_13 3 (by rw [k13_4]; decide) (by decide) rfl (by decide) ?_
    refine E_bipush (v := 114) dX12_worthOf_63 (by decide) ?_
    refine E_iload_n dX12_worthOf_65 rfl ?_
    refine E_isub dX12_worthOf_66 ?_
    refine E_iret dX12_worthOf_67 rfl rfl ?_
    first | (simpa [woF, kdF, tmF, ← hx13, k13_1, k13_2, k13_3, k13_4] using hq) | (simp_all [woF, kdF, tmF])
  by_cases k13_5 : x13 = 5
  · refine E_tswI (tgt := 68) dX12_worthOf_13 4 (by rw [k13_5]; decide) (by decide) rfl (by decide) ?_
    refine E_ic (v := 3) dX12_worthOf_68 (by decide) ?_
    refine E_iret dX12_worthOf_69 rfl rfl ?_
    first | (simpa [woF, kdF, tmF, ← hx13, k13_1, k13_2, k13_3, k13_4, k13_5] using hq) | (simp_all [woF, kdF, tmF])
  refine E_tswO (tgt := 70) dX12_worthOf_13 (by have := ne_toInt (k := 1) (by decide) k13_1; have := ne_toInt (k := 2) (by decide) k13_2; have := ne_toInt (k := 3) (by decide) k13_3; have := ne_toInt (k := 4) (by decide) k13_4; have := ne_toInt (k := 5) (by decide) k13_5; omega) (by decide) ?_
  refine E_iload_n dX12_worthOf_70 rfl ?_
  refine E_iret dX12_worthOf_71 rfl rfl ?_
  first | (simpa [woF, kdF, tmF, ← hx13, k13_1, k13_2, k13_3, k13_4, k13_5] using hq) | (simp_all [woF, kdF, tmF])
theorem s_X12_draw {Q : Int32 → HP → Prop} (hv : S 160 = v) (hq : ∀ S', S' 160 = drawV v → MF S S' → Q (drawR v) (lay Θ S')) : C Θ d 0 0 yX12_draw cX12_draw 1 (some .int) [.ref (tb Θ + 159)] 183 (lay Θ S) (Qi Q) := by
  refine C_of rfl rfl (Nat.le_of_ble_eq_true rfl) ?_
  refine E_aload_n dX12_draw_0 rfl ?_
  refine L_get fX12_9 dX12_draw_1 (by decide) sh_159 rfl ?_
  refine E_ic (v := 0) dX12_draw_4 (by decide) ?_
  refine E_aload_n dX12_draw_5 rfl ?_
  refine L_get fX12_9 dX12_draw_6 (by decide) sh_159 rfl ?_
  refine E_ic (v := 0) dX12_draw_9 (by decide) ?_
  refine L_iald (j := 0) dX12_draw_10 (by decide) sh_160 rfl (by decide) (by decide) ?_
  refine E_ldc dX12_draw_11 kX12_131 ?_
  refine E_imul dX12_draw_13 ?_
  refine E_sipush (v := 12345) dX12_draw_14 (by decide) ?_
  refine E_iadd dX12_draw_17 ?_
  refine L_iast (j := 0) dX12_draw_18 (by decide) sh_160 rfl (by decide) (by decide) ?_
  refine E_aload_n dX12_draw_19 rfl ?_
  refine L_get fX12_9 dX12_draw_20 (by decide) sh_159 rfl ?_
  refine E_ic (v := 0) dX12_draw_23 (by decide) ?_
  refine L_iald (j := 0) dX12_draw_24 (by decide) sh_160 rfl (by decide) (by decide) ?_
  refine E_bipush (v := 8) dX12_draw_25 (by decide) ?_
  refine E_iushr dX12_draw_27 ?_
  refine E_iret dX12_draw_28 rfl rfl ?_
  rw [wr_at, hv]
  exact hq _ (by rw [wr_at, hv]; rfl) MF.w0
theorem s_X12_goAboard {Q : HP → Prop} (hv : S 160 = v) (p o : Nat) (hp9 : p < 9) (ho9 : o < 9) (hq : ∀ S', S' 160 = goV v p o → MF S S' → Q (lay Θ S')) : C Θ (d + 1) 0 0 yX12_goAboard cX12_goAboard 3 none [.ref (tb Θ + 159), .int (nI p), .int (nI o)] 183 (lay Θ S) (Qv Q) := by
  refine C_of rfl rfl (Nat.le_of_ble_eq_true rfl) ?_
  refine E_aload_n dX12_goAboard_0 rfl ?_
  refine E_iload_n dX12_goAboard_1 rfl ?_
  refine E_ic (v := 1) dX12_goAboard_2 (by decide) ?_
  refine E_ic (v := 2) dX12_goAboard_3 (by decide) ?_
  refine E_V3v vX12_103_12 dX12_goAboard_4 (Nat.le_of_ble_eq_true rfl) (by decide) (sh_159 _) (s_X12_put hv p (1) (16 + 9 * p) rfl rfl (by omega) (by omega) (fun S4 h4 f4 => ?_))
  refine E_aload_n dX12_goAboard_7 rfl ?_
  refine E_iload_n dX12_goAboard_8 rfl ?_
  refine E_ic (v := 1) dX12_goAboard_9 (by decide) ?_
  refine E_ic (v := 2) dX12_goAboard_10 (by decide) ?_
  refine E_V3v vX12_103_12 dX12_goAboard_11 (Nat.le_of_ble_eq_true rfl) (by decide) (sh_159 _) (s_X12_put h4 o (1) (16 + 9 * o) rfl rfl (by omega) (by omega) (fun S11 h11 f11 => ?_))
  refine E_aload_n dX12_goAboard_14 rfl ?_
  refine L_get fX12_9 dX12_goAboard_15 (by decide) sh_159 rfl ?_
  refine E_bipush (v := 7) dX12_goAboard_18 (by decide) ?_
  refine E_iload_n dX12_goAboard_20 rfl ?_
  refine E_iload_n dX12_goAboard_21 rfl ?_
  refine E_icmp_ge dX12_goAboard_22 (fun c22 => ?_) (fun c22 => ?_)
  · refine E_iload_n dX12_goAboard_29 rfl ?_
    refine N_iast (j := 7) dX12_goAboard_30 rfl (by decide) h11 (fun S30 h30 f30 => ?_)
    refine E_aload_n dX12_goAboard_31 rfl ?_
    refine L_get fX12_9 dX12_goAboard_32 (by decide) sh_159 rfl ?_
    refine E_bipush (v := 8) dX12_goAboard_35 (by decide) ?_
    refine E_iload_n dX12_goAboard_37 rfl ?_
    refine E_iload_n dX12_goAboard_38 rfl ?_
    refine E_icmp_ge dX12_goAboard_39 (fun _ => ?_) (fun c => absurd c22 c)
    refine E_iload_n dX12_goAboard_46 rfl ?_
    refine N_iast (j := 8) dX12_goAboard_47 rfl (by decide) h30 (fun S47 h47 f47 => ?_)
    refine E_aload_n dX12_goAboard_48 rfl ?_
    refine L_get fX12_9 dX12_goAboard_49 (by decide) sh_159 rfl ?_
    refine E_bipush (v := 6) dX12_goAboard_52 (by decide) ?_
    refine E_ic (v := 1) dX12_goAboard_54 (by decide) ?_
    refine N_iast (j := 6) dX12_goAboard_55 rfl (by decide) h47 (fun S55 h55 f55 => ?_)
    refine E_vret dX12_goAboard_56 rfl rfl ?_
    exact hq _ (h55.trans (by rw [goV, if_neg (i_lt c22), if_neg (i_lt c22)])) ((((((MF.rf).tr f4).tr f11).tr f30).tr f47).tr f55)
  · refine E_iload_n dX12_goAboard_25 rfl ?_
    refine E_goto dX12_goAboard_26 ?_
    refine N_iast (j := 7) dX12_goAboard_30 rfl (by decide) h11 (fun S30 h30 f30 => ?_)
    refine E_aload_n dX12_goAboard_31 rfl ?_
    refine L_get fX12_9 dX12_goAboard_32 (by decide) sh_159 rfl ?_
    refine E_bipush (v := 8) dX12_goAboard_35 (by decide) ?_
    refine E_iload_n dX12_goAboard_37 rfl ?_
    refine E_iload_n dX12_goAboard_38 rfl ?_
    refine E_icmp_ge dX12_goAboard_39 (fun c => absurd c c22) (fun _ => ?_)
    refine E_iload_n dX12_goAboard_42 rfl ?_
    refine E_goto dX12_goAboard_43 ?_
    refine N_iast (j := 8) dX12_goAboard_47 rfl (by decide) h30 (fun S47 h47 f47 => ?_)
    refine E_aload_n dX12_goAboard_48 rfl ?_
    refine L_get fX12_9 dX12_goAboard_49 (by decide) sh_159 rfl ?_
    refine E_bipush (v := 6) dX12_goAboard_52 (by decide) ?_
    refine E_ic (v := 1) dX12_goAboard_54 (by decide) ?_
    refine N_iast (j := 6) dX12_goAboard_55 rfl (by decide) h47 (fun S55 h55 f55 => ?_)
    refine E_vret dX12_goAboard_56 rfl rfl ?_
    exact hq _ (h55.trans (by rw [goV, if_pos (i_nle c22), if_pos (i_nle c22)])) ((((((MF.rf).tr f4).tr f11).tr f30).tr f47).tr f55)
theorem s_X12_comesTo {Q : HP → Prop} (hv : S 160 = v) {b : Int32} (p o : Nat) (hp : v 7 = nI p) (ho : v 8 = nI o) (hp9 : p < 9) (ho9 : o < 9) (hq : ∀ S', S' 160 = toV v p o b → MF S S' → Q (lay Θ S')) : C Θ (d + 1) 0 0 yX12_comesTo cX12_comesTo 2 none [.ref (tb Θ + 159), .int b] 183 (lay Θ S) (Qv Q) := by
  refine C_of rfl rfl (Nat.le_of_ble_eq_true rfl) ?_
  refine E_aload_n dX12_comesTo_0 rfl ?_
  refine E_aload_n dX12_comesTo_1 rfl ?_
  refine L_get fX12_9 dX12_comesTo_2 (by decide) sh_159 rfl ?_
  refine E_bipush (v := 7) dX12_comesTo_5 (by decide) ?_
  refine N_iald (j := 7) dX12_comesTo_7 rfl (by decide) hv ?_
  refine E_ic (v := 1) dX12_comesTo_8 (by decide) ?_
  refine E_iload_n dX12_comesTo_9 rfl ?_
  refine E_V3v vX12_103_12 dX12_comesTo_10 (Nat.le_of_ble_eq_true rfl) (by decide) (sh_159 _) (s_X12_put hv p (1) (16 + 9 * p) hp rfl (by omega) (by omega) (fun S10 h10 f10 => ?_))
  refine E_aload_n dX12_comesTo_13 rfl ?_
  refine E_aload_n dX12_comesTo_14 rfl ?_
  refine L_get fX12_9 dX12_comesTo_15 (by decide) sh_159 rfl ?_
  refine E_bipush (v := 8) dX12_comesTo_18 (by decide) ?_
  refine N_iald (j := 8) dX12_comesTo_20 rfl (by decide) h10 ?_
  refine E_ic (v := 1) dX12_comesTo_21 (by decide) ?_
  refine E_iload_n dX12_comesTo_22 rfl ?_
  refine E_V3v vX12_103_12 dX12_comesTo_23 (Nat.le_of_ble_eq_true rfl) (by decide) (sh_159 _) (s_X12_put h10 o (1) (16 + 9 * o) (by rw [← ho]; exact pk_un (by omega)) rfl (by omega) (by omega) (fun S23 h23 f23 => ?_))
  refine E_aload_n dX12_comesTo_26 rfl ?_
  refine L_get fX12_9 dX12_comesTo_27 (by decide) sh_159 rfl ?_
  refine E_ic (v := 5) dX12_comesTo_30 (by decide) ?_
  refine E_iload_n dX12_comesTo_31 rfl ?_
  refine N_iast (j := 5) dX12_comesTo_32 rfl (by decide) h23 (fun S32 h32 f32 => ?_)
  refine E_aload_n dX12_comesTo_33 rfl ?_
  refine L_get fX12_9 dX12_comesTo_34 (by decide) sh_159 rfl ?_
  refine E_bipush (v := 6) dX12_comesTo_37 (by decide) ?_
  refine E_ic (v := 0) dX12_comesTo_39 (by decide) ?_
  refine N_iast (j := 6) dX12_comesTo_40 rfl (by decide) h32 (fun S40 h40 f40 => ?_)
  refine E_vret dX12_comesTo_41 rfl rfl ?_
  exact hq _ (h40.trans rfl) (((((MF.rf).tr f10).tr f23).tr f32).tr f40)
def oI (r : Option Nat) : Int32 := match r with
  | some p => nI p
  | none => -1
theorem l_X12_nextAt {Q : Int32 → HP → Prop} (hv : S 160 = v) {a b : Int32} {m : Nat} (hm : v 1 = nI m) (hm9 : m ≤ 9) : ∀ (f i : Nat), i + f = m → Q (oI (nxF v b m f)) (lay Θ S) → E Θ (d + 1) 0 0 yX12_nextAt cX12_nextAt 4 (some .int) 0 0 183 (lay Θ S) 2 [(3, .int (nI i)), (2, .int a), (1, .int b), (0, .ref (tb Θ + 159))] [] (Qi Q) := by
  intro f
  induction f with
  | zero =>
    intro i hi0 hq
    refine E_iload_n dX12_nextAt_2 rfl ?_
    refine E_aload_n dX12_nextAt_3 rfl ?_
    refine L_get fX12_9 dX12_nextAt_4 (by decide) sh_159 rfl ?_
    refine E_ic (v := 1) dX12_nextAt_7 (by decide) ?_
    refine N_iald (j := 1) dX12_nextAt_8 rfl (by decide) hv ?_
    refine E_icmp_ge dX12_nextAt_9 (fun _ => ?_) (fun c => absurd (by rw [hm]; exact nI_le (by omega) (by omega)) c)
    refine E_ic (v := (-1)) dX12_nextAt_30 (by decide) ?_
    refine E_iret dX12_nextAt_31 rfl rfl ?_
    exact hq
  | succ f ih =>
    intro i hi0 hq
    have hi : m - (f + 1) = i := by omega
    refine E_iload_n dX12_nextAt_2 rfl ?_
    refine E_aload_n dX12_nextAt_3 rfl ?_
    refine L_get fX12_9 dX12_nextAt_4 (by decide) sh_159 rfl ?_
    refine E_ic (v := 1) dX12_nextAt_7 (by decide) ?_
    refine N_iald (j := 1) dX12_nextAt_8 rfl (by decide) hv ?_
    refine E_icmp_ge dX12_nextAt_9 (fun c => absurd c (fun c => absurd ((nI_leI (by omega) (by omega)).mp (hm ▸ c)) (by omega))) (fun _ => ?_)
    refine E_aload_n dX12_nextAt_12 rfl ?_
    refine E_iload_n dX12_nextAt_13 rfl ?_
    refine E_ic (v := 1) dX12_nextAt_14 (by decide) ?_
    refine E_V2i vX12_85_12 dX12_nextAt_15 (Nat.le_of_ble_eq_true rfl) (by decide) (sh_159 _) (s_X12_of hv i (1) (16 + 9 * i) rfl rfl (by omega) (by omega) ?_)
    refine E_iload_n dX12_nextAt_18 rfl ?_
    refine E_icmp_ne dX12_nextAt_19 (fun c19 => ?_) (fun c19 => ?_)
    · refine E_iinc (v := 1) dX12_nextAt_24 rfl (by decide) (by decide) ?_
      refine E_goto dX12_nextAt_27 ?_
      rw [nI_1]
      exact E.loc (by exact ⟨rfl, rfl, rfl, rfl, trivial⟩) (ih (i + 1) (by omega) (by rw [nxF, if_neg (by rw [hi]; exact c19)] at hq; exact hq))
    · refine E_iload_n dX12_nextAt_22 rfl ?_
      refine E_iret dX12_nextAt_23 rfl rfl ?_
      rw [nxF, if_pos (by rw [hi]; exact c19), hi] at hq
      exact hq
end Ref
