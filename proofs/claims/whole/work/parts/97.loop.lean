/-! the law's loop, and its beginning -/
theorem sub6 {L i : Nat} (hL : L ≤ 3072) (hi : i ≤ 4000) : nI L - 6 < nI i ↔ L < i + 6 := by
  by_cases c : 6 ≤ L
  · rw [show nI L - 6 = nI (L - 6) from pk_sub (b := 6) c, nI_ltI (by omega) (by omega)]
    omega
  · have h : nI L - 6 < 0 := by
      rcases (show L = 0 ∨ L = 1 ∨ L = 2 ∨ L = 3 ∨ L = 4 ∨ L = 5 by omega) with rfl | rfl | rfl | rfl | rfl | rfl <;> decide
    exact ⟨fun _ => by omega, fun _ => Int32.lt_of_lt_of_le h (nI_pos' (by omega))⟩
theorem sw43 {x : Int32} (h : ∀ k, k < 43 → x ≠ nI k) : x.toInt < 0 ∨ 42 < x.toInt := by
  by_cases c : x.toInt < 0 ∨ 42 < x.toInt
  · exact c
  · exfalso
    obtain ⟨j, hj, e⟩ := nI_of2 (x := x) (M := 42) (n := 42) (by decide) (fun h0 => c (Or.inl (Int32.lt_iff_toInt_lt.mp h0))) (Int32.le_iff_toInt_le.mpr (show x.toInt ≤ 42 by omega))
    exact h j (by omega) e
section Ll
variable {Θ : Th} {b L : Nat} {xs : Nat → Int32} {adK adV : Nat → Nat} {fv : Value}
set_option maxHeartbeats 4000000 in
theorem l_law (hS : HasS Θ adK adV fv) (hX : ∀ U H, tX Θ U H → XS b L xs (tb Θ) U H) (hL : L ≤ 3072) : ∀ (f i : Nat) (S : SS), JJ S → i ≤ L + 6 → L < i + 6 * f → E Θ 130 183 10392 yL_law cL_law 4 (some .boolean) 183 10392 183 (lay Θ S) 18 [(3, .int (nI i)), (0, .ref b), (1, .ref (tb Θ + 0)), (2, .ref (tb Θ + 159))] [] (Qi (fun r _ => r = 1)) := by
  intro f
  induction f with
  | zero =>
    intro i S h hi hf
    refine E_iload_n dL_law_18 rfl ?_
    refine E_aload_n dL_law_19 rfl ?_
    refine E_slen hX dL_law_20 ?_
    refine E_bipush (v := 6) dL_law_21 (by decide) ?_
    refine E_isub dL_law_23 ?_
    refine E_icmp_gt dL_law_24 (fun _ => ?_) (fun c => absurd ((sub6 hL (by omega)).mpr (by omega)) c)
    refine E_ic (v := 1) dL_law_1555 (by decide) ?_
    exact E_iret dL_law_1556 rfl rfl rfl
  | succ f ih =>
    intro i S h hi hf
    refine E_iload_n dL_law_18 rfl ?_
    refine E_aload_n dL_law_19 rfl ?_
    refine E_slen hX dL_law_20 ?_
    refine E_bipush (v := 6) dL_law_21 (by decide) ?_
    refine E_isub dL_law_23 ?_
    refine E_icmp_gt dL_law_24 (fun _ => ?_) (fun c => ?_)
    · refine E_ic (v := 1) dL_law_1555 (by decide) ?_
      exact E_iret dL_law_1556 rfl rfl rfl
    have hi6 : i + 6 ≤ L := Nat.not_lt.mp (fun q => c ((sub6 hL (by omega)).mpr q))
    have K2 : ∀ S2, JJ S2 → E Θ 130 183 10392 yL_law cL_law 4 (some .boolean) 183 10392 183 (lay Θ S2) 1549 [(3, .int (nI i)), (0, .ref b), (1, .ref (tb Θ + 0)), (2, .ref (tb Θ + 159))] [] (Qi (fun r _ => r = 1)) := by
      intro S2 h2
      refine E_iinc (v := 6) dL_law_1549 rfl (by decide) (by decide) ?_
      refine E_goto dL_law_1552 ?_
      rw [show nI i + 6 = nI (i + 6) from nI_add i 6]
      exact E.loc (ls' := [(3, .int (nI (i + 6))), (0, .ref b), (1, .ref (tb Θ + 0)), (2, .ref (tb Θ + 159))]) ⟨rfl, rfl, rfl, rfl, trivial⟩ (ih (i + 6) S2 h2 (by omega) (by omega))
    refine E_aload_n dL_law_27 rfl ?_
    refine E_iload_n dL_law_28 rfl ?_
    refine E_sld (j := i) hX dL_law_29 rfl (by omega) (by omega) ?_
    refine E_bipush (v := 63) dL_law_30 (by decide) ?_
    refine E_iand dL_law_32 ?_
    refine E_top (fun x hx => ?_)
    by_cases q0 : x = 0
    · exact E_tswI (tgt := 220) dL_law_33 0 (by rw [q0]; decide) (by decide) rfl (by decide) (c_one hX hL hi6 h K2)
    by_cases q1 : x = 1
    · exact E_tswI (tgt := 253) dL_law_33 1 (by rw [q1]; decide) (by decide) rfl (by decide) (c_told hX hL hi6 h K2)
    by_cases q2 : x = 2
    · exact E_tswI (tgt := 286) dL_law_33 2 (by rw [q2]; decide) (by decide) rfl (by decide) (c_view hX hL hi6 h K2)
    by_cases q3 : x = 3
    · exact E_tswI (tgt := 319) dL_law_33 3 (by rw [q3]; decide) (by decide) rfl (by decide) (c_believes hX hL hi6 h K2)
    by_cases q4 : x = 4
    · exact E_tswI (tgt := 362) dL_law_33 4 (by rw [q4]; decide) (by decide) rfl (by decide) (c_as hX hL hi6 h K2)
    by_cases q5 : x = 5
    · exact E_tswI (tgt := 395) dL_law_33 5 (by rw [q5]; decide) (by decide) rfl (by decide) (c_turns hX hL hi6 h K2)
    by_cases q6 : x = 6
    · exact E_tswI (tgt := 428) dL_law_33 6 (by rw [q6]; decide) (by decide) rfl (by decide) (c_set hX hL hi6 h K2)
    by_cases q7 : x = 7
    · exact E_tswI (tgt := 471) dL_law_33 7 (by rw [q7]; decide) (by decide) rfl (by decide) (c_rule hX hL hi6 h K2)
    by_cases q8 : x = 8
    · exact E_tswI (tgt := 504) dL_law_33 8 (by rw [q8]; decide) (by decide) rfl (by decide) (c_deal hX hL hi6 h K2)
    by_cases q9 : x = 9
    · exact E_tswI (tgt := 527) dL_law_33 9 (by rw [q9]; decide) (by decide) rfl (by decide) (c_seed hX hL hi6 h K2)
    by_cases q10 : x = 10
    · exact E_tswI (tgt := 550) dL_law_33 10 (by rw [q10]; decide) (by decide) rfl (by decide) (c_boat hX hL hi6 h K2)
    by_cases q11 : x = 11
    · exact E_tswI (tgt := 573) dL_law_33 11 (by rw [q11]; decide) (by decide) rfl (by decide) (c_argues hX hL hi6 h K2)
    by_cases q12 : x = 12
    · exact E_tswI (tgt := 626) dL_law_33 12 (by rw [q12]; decide) (by decide) rfl (by decide) (c_minutes hX hL hi6 h K2)
    by_cases q13 : x = 13
    · exact E_tswI (tgt := 649) dL_law_33 13 (by rw [q13]; decide) (by decide) rfl (by decide) (c_ferry hX hL hi6 h K2)
    by_cases q14 : x = 14
    · exact E_tswI (tgt := 672) dL_law_33 14 (by rw [q14]; decide) (by decide) rfl (by decide) (c_over hX hL hi6 h K2)
    by_cases q15 : x = 15
    · exact E_tswI (tgt := 715) dL_law_33 15 (by rw [q15]; decide) (by decide) rfl (by decide) (c_settles hX hL hi6 h K2)
    by_cases q16 : x = 16
    · exact E_tswI (tgt := 758) dL_law_33 16 (by rw [q16]; decide) (by decide) rfl (by decide) (c_pairs hX hL hi6 h K2)
    by_cases q17 : x = 17
    · exact E_tswI (tgt := 781) dL_law_33 17 (by rw [q17]; decide) (by decide) rfl (by decide) (c_behind hX hL hi6 h K2)
    by_cases q18 : x = 18
    · exact E_tswI (tgt := 814) dL_law_33 18 (by rw [q18]; decide) (by decide) rfl (by decide) (c_lands hX hL hi6 h K2)
    by_cases q19 : x = 19
    · exact E_tswI (tgt := 837) dL_law_33 19 (by rw [q19]; decide) (by decide) rfl (by decide) (c_calm hX hL hi6 h K2)
    by_cases q20 : x = 20
    · exact E_tswI (tgt := 870) dL_law_33 20 (by rw [q20]; decide) (by decide) rfl (by decide) (c_becomes hX hL hi6 h K2)
    by_cases q21 : x = 21
    · exact E_tswI (tgt := 913) dL_law_33 21 (by rw [q21]; decide) (by decide) rfl (by decide) (c_like hX hL hi6 h K2)
    by_cases q22 : x = 22
    · exact E_tswI (tgt := 946) dL_law_33 22 (by rw [q22]; decide) (by decide) rfl (by decide) (c_fee hX hL hi6 h K2)
    by_cases q23 : x = 23
    · exact E_tswI (tgt := 959) dL_law_33 23 (by rw [q23]; decide) (by decide) rfl (by decide) (c_fine hX hL hi6 h K2)
    by_cases q24 : x = 24
    · exact E_tswI (tgt := 982) dL_law_33 24 (by rw [q24]; decide) (by decide) rfl (by decide) (c_feed hX hL hi6 h K2)
    by_cases q25 : x = 25
    · exact E_tswI (tgt := 1025) dL_law_33 25 (by rw [q25]; decide) (by decide) rfl (by decide) (c_trim hX hL hi6 h K2)
    by_cases q26 : x = 26
    · exact E_tswI (tgt := 1048) dL_law_33 26 (by rw [q26]; decide) (by decide) rfl (by decide) (c_text hS hX hL hi6 h K2)
    by_cases q27 : x = 27
    · exact E_tswI (tgt := 1061) dL_law_33 27 (by rw [q27]; decide) (by decide) rfl (by decide) (c_textTold hX hL hi6 h K2)
    by_cases q28 : x = 28
    · exact E_tswI (tgt := 1094) dL_law_33 28 (by rw [q28]; decide) (by decide) rfl (by decide) (c_why hX hL hi6 h K2)
    by_cases q29 : x = 29
    · exact E_tswI (tgt := 1117) dL_law_33 29 (by rw [q29]; decide) (by decide) rfl (by decide) (c_sheet hX hL hi6 h K2)
    by_cases q30 : x = 30
    · exact E_tswI (tgt := 1160) dL_law_33 30 (by rw [q30]; decide) (by decide) rfl (by decide) (c_mark hX hL hi6 h K2)
    by_cases q31 : x = 31
    · exact E_tswI (tgt := 1203) dL_law_33 31 (by rw [q31]; decide) (by decide) rfl (by decide) (c_pour hX hL hi6 h K2)
    by_cases q32 : x = 32
    · exact E_tswI (tgt := 1226) dL_law_33 32 (by rw [q32]; decide) (by decide) rfl (by decide) (c_reads hX hL hi6 h K2)
    by_cases q33 : x = 33
    · exact E_tswI (tgt := 1249) dL_law_33 33 (by rw [q33]; decide) (by decide) rfl (by decide) (c_copy hX hL hi6 h K2)
    by_cases q34 : x = 34
    · exact E_tswI (tgt := 1312) dL_law_33 34 (by rw [q34]; decide) (by decide) rfl (by decide) (c_lay hX hL hi6 h K2)
    by_cases q35 : x = 35
    · exact E_tswI (tgt := 1355) dL_law_33 35 (by rw [q35]; decide) (by decide) rfl (by decide) (c_ask hX hL hi6 h K2)
    by_cases q36 : x = 36
    · exact E_tswI (tgt := 1388) dL_law_33 36 (by rw [q36]; decide) (by decide) rfl (by decide) (c_item hX hL hi6 h K2)
    by_cases q37 : x = 37
    · exact E_tswI (tgt := 1421) dL_law_33 37 (by rw [q37]; decide) (by decide) rfl (by decide) (c_rest hX hL hi6 h K2)
    by_cases q38 : x = 38
    · exact E_tswI (tgt := 1454) dL_law_33 38 (by rw [q38]; decide) (by decide) rfl (by decide) (c_tell hX hL hi6 h K2)
    by_cases q39 : x = 39
    · exact E_tswI (tgt := 1477) dL_law_33 39 (by rw [q39]; decide) (by decide) rfl (by decide) (c_check hX hL hi6 h K2)
    by_cases q40 : x = 40
    · exact E_tswI (tgt := 1500) dL_law_33 40 (by rw [q40]; decide) (by decide) rfl (by decide) (c_keep hX hL hi6 h K2)
    by_cases q41 : x = 41
    · exact E_tswI (tgt := 1513) dL_law_33 41 (by rw [q41]; decide) (by decide) rfl (by decide) (c_back hX hL hi6 h K2)
    by_cases q42 : x = 42
    · exact E_tswI (tgt := 1526) dL_law_33 42 (by rw [q42]; decide) (by decide) rfl (by decide) (c_count hX hL hi6 h K2)
    refine E_tswO (tgt := 1549) dL_law_33 (sw43 (fun k hk => ?_)) (by decide) (K2 S h)
    match k, hk with
    | 0, _ => exact q0
    | 1, _ => exact q1
    | 2, _ => exact q2
    | 3, _ => exact q3
    | 4, _ => exact q4
    | 5, _ => exact q5
    | 6, _ => exact q6
    | 7, _ => exact q7
    | 8, _ => exact q8
    | 9, _ => exact q9
    | 10, _ => exact q10
    | 11, _ => exact q11
    | 12, _ => exact q12
    | 13, _ => exact q13
    | 14, _ => exact q14
    | 15, _ => exact q15
    | 16, _ => exact q16
    | 17, _ => exact q17
    | 18, _ => exact q18
    | 19, _ => exact q19
    | 20, _ => exact q20
    | 21, _ => exact q21
    | 22, _ => exact q22
    | 23, _ => exact q23
    | 24, _ => exact q24
    | 25, _ => exact q25
    | 26, _ => exact q26
    | 27, _ => exact q27
    | 28, _ => exact q28
    | 29, _ => exact q29
    | 30, _ => exact q30
    | 31, _ => exact q31
    | 32, _ => exact q32
    | 33, _ => exact q33
    | 34, _ => exact q34
    | 35, _ => exact q35
    | 36, _ => exact q36
    | 37, _ => exact q37
    | 38, _ => exact q38
    | 39, _ => exact q39
    | 40, _ => exact q40
    | 41, _ => exact q41
    | 42, _ => exact q42
    | k + 43, hk => exact absurd hk (by omega)
set_option maxHeartbeats 4000000 in
theorem b_law (hS : HasS Θ adK adV fv) (hX : ∀ U H, tX Θ U H → XS b L xs (tb Θ) U H) (hL : L ≤ 3072) : E Θ 130 183 10392 yL_law cL_law 4 (some .boolean) 0 0 0 (fun _ => .inr (99, [])) 0 [(0, .ref b)] [] (Qi (fun r _ => r = 1)) := by
  refine I_new (cl2 := 1) (sl2 := 17) (n2 := 1) (fs := o11 Θ 0) K_11 lL_7 dL_law_0 (fun j hj => by
    match j, hj with
    | 0, _ => rfl
    | 1, _ => rfl
    | 2, _ => rfl
    | 3, _ => rfl
    | 4, _ => rfl
    | 5, _ => rfl
    | 6, _ => rfl
    | 7, _ => rfl
    | 8, _ => rfl
    | 9, _ => rfl
    | 10, _ => rfl
    | 11, _ => rfl
    | 12, _ => rfl
    | 13, _ => rfl
    | 14, _ => rfl
    | 15, _ => rfl
    | 16, _ => rfl
    | q + 17, h => exact absurd h (by omega)) (Nat.le_of_ble_eq_true rfl) (Nat.le_of_ble_eq_true rfl) rfl rfl rfl ?_
  refine E_dup dL_law_3 rfl ?_
  refine I_call0 (cl2 := 159) (sl2 := 3657) (n2 := 159) iL_9 dL_law_4 (Nat.le_of_ble_eq_true rfl) (Nat.le_of_ble_eq_true rfl) (Nat.le_of_ble_eq_true rfl) rfl rfl rfl (s_X11_init (d := 125) up_at ?_)
  refine E_astore_n dL_law_7 (by decide) ?_
  refine I_new (cl2 := 160) (sl2 := 3692) (n2 := 160) (fs := o12 Θ 0) K_12 lL_10 dL_law_8 (fun j hj => by
    match j, hj with
    | 0, _ => rfl
    | 1, _ => rfl
    | 2, _ => rfl
    | 3, _ => rfl
    | 4, _ => rfl
    | 5, _ => rfl
    | 6, _ => rfl
    | 7, _ => rfl
    | 8, _ => rfl
    | 9, _ => rfl
    | 10, _ => rfl
    | 11, _ => rfl
    | 12, _ => rfl
    | 13, _ => rfl
    | 14, _ => rfl
    | 15, _ => rfl
    | 16, _ => rfl
    | 17, _ => rfl
    | 18, _ => rfl
    | 19, _ => rfl
    | 20, _ => rfl
    | 21, _ => rfl
    | 22, _ => rfl
    | 23, _ => rfl
    | 24, _ => rfl
    | 25, _ => rfl
    | 26, _ => rfl
    | 27, _ => rfl
    | 28, _ => rfl
    | 29, _ => rfl
    | 30, _ => rfl
    | 31, _ => rfl
    | 32, _ => rfl
    | 33, _ => rfl
    | 34, _ => rfl
    | q + 35, h => exact absurd h (by omega)) (Nat.le_of_ble_eq_true rfl) (Nat.le_of_ble_eq_true rfl) rfl rfl rfl ?_
  refine E_dup dL_law_11 rfl ?_
  refine I_call0 (cl2 := 183) (sl2 := 10392) (n2 := 183) iL_12 dL_law_12 (Nat.le_of_ble_eq_true rfl) (Nat.le_of_ble_eq_true rfl) (Nat.le_of_ble_eq_true rfl) rfl rfl rfl (s_X12_init (d := 128) up_at (fun q hq => up_ne (by omega)) ?_)
  refine E_astore_n dL_law_15 (by decide) ?_
  refine E_ic (v := 0) dL_law_16 (by decide) ?_
  refine E_istore_n dL_law_17 (by decide) ?_
  exact E.loc (ls' := [(3, .int (nI 0)), (0, .ref b), (1, .ref (tb Θ + 0)), (2, .ref (tb Θ + 159))]) ⟨rfl, rfl, rfl, rfl, trivial⟩ (l_law hS hX hL 600 0 S0 b_J (by omega) (by omega))
end Ll
theorem whole_start {p : Program} {e : Env} {s : State} {m : MethodId} {below : List Frame} {meth : Method} {c : Code} (l : Launch) (hflags : l.flags = flags0) {b L : Nat} {xs : Nat → Int32} (hL : L ≤ 3072) (C0 : lw_At p s m meth c b L xs) : W p l e room_1 s m #[Value.ref b] below meth c s.heap [] 0 0 (lw_Z below #[Value.ref b] s) (entryFrame m ([Value.ref b] : List Value).toArray 4) :=
  law_in2 l C0 (ms := 10392) (Nat.le_of_ble_eq_true rfl) (fun Θ adK adV fv _ hX hS => b_law hS hX hL)
