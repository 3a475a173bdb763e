/-! the class's words: keys and names -/
theorem ix_nm : ∀ (k : Fin 3) (q : Fin 128), ixS (3 + k.val) (nI q.val) (lnS.getD (3 + k.val) 0) 0 = nmR k.val (nI q.val) := by decide +kernel
theorem c_q : ∀ q : Fin 128, ((nI q.val).toUInt32 % 65536).toInt32 = nI q.val := by decide +kernel
theorem nm_tr : ∀ j : Fin 3, -1 - nI j.val = trC (10000 + nI j.val) := by decide +kernel
theorem sg_tr : 10000 + 33 = trC (-10) ∧ 10000 + 124 = trC (-1) ∧ 10000 + 38 = trC (-2) ∧ 10000 + 60 = trC (-3) ∧ 10000 + 61 = trC (-4) ∧ 10000 + 62 = trC (-5) ∧ 10000 + 43 = trC (-6) ∧ 10000 + 45 = trC (-7) ∧ 10000 + 42 = trC (-8) ∧ 10000 + 47 = trC (-9) := by decide +kernel
section Wo
variable {Θ : Th} {d : Nat} {S : SS} {b : Nat → Int32} {n τ : Nat} {adK adV : Nat → Nat} {fv : Value}
theorem l_X7_isWordHere {Q : Int32 → HP → Prop} (hX : HasS Θ adK adV fv) {i : Nat} (hi : i < 6) (hl6 : lnS.getD i 0 ≤ 6) (hT : CT S b n) (hn : n ≤ 96) {s e : Nat} {t : Int32} (hk : MKc S s e t) (hse : s ≤ e) (hen : e ≤ n) (hes : e - s = lnS.getD i 0) (h1 : (∀ j, j < lnS.getD i 0 → b (s + j) = sby i j) → Q 1 (lay Θ S)) (h0 : ¬ (∀ j, j < lnS.getD i 0 → b (s + j) = sby i j) → Q 0 (lay Θ S)) : ∀ (f k : Nat), k + f = lnS.getD i 0 → (∀ j, j < k → b (s + j) = sby i j) → E Θ (d + 4) 0 0 yX7_isWordHere cX7_isWordHere 3 (some .boolean) 0 0 183 (lay Θ S) 30 [(2, .int (nI k)), (1, .ref (adK i)), (0, .ref (tb Θ + 3))] [] (Qi Q) := by
  intro f
  induction f with
  | zero =>
    intro k hf ha
    refine E_iload_n dX7_isWordHere_30 rfl ?_
    refine E_aload_n dX7_isWordHere_31 rfl ?_
    refine E_VX0i hX hi xX7_67 dX7_isWordHere_32 (Nat.le_of_ble_eq_true rfl) (s_J0_length hX hi ?_)
    refine E_icmp_ge dX7_isWordHere_35 (fun _ => ?_) (fun c => absurd (nI_le (by omega) (by omega)) c)
    refine E_ic (v := 1) dX7_isWordHere_65 (by decide) ?_
    refine E_iret dX7_isWordHere_66 rfl rfl ?_
    exact h1 (fun j hj => ha j (by omega))
  | succ f ih =>
    intro k hf ha
    refine E_iload_n dX7_isWordHere_30 rfl ?_
    refine E_aload_n dX7_isWordHere_31 rfl ?_
    refine E_VX0i hX hi xX7_67 dX7_isWordHere_32 (Nat.le_of_ble_eq_true rfl) (s_J0_length hX hi ?_)
    refine E_icmp_ge dX7_isWordHere_35 (fun c => absurd c (fun z => absurd ((nI_leI (by omega) (by omega)).mp z) (by omega))) (fun _ => ?_)
    refine E_aload_n dX7_isWordHere_38 rfl ?_
    refine L_get fX7_9 dX7_isWordHere_39 (by decide) sh_3 rfl ?_
    refine E_aload_n dX7_isWordHere_42 rfl ?_
    refine L_get fX7_50 dX7_isWordHere_43 (by decide) sh_3 rfl ?_
    rw [hk.1]
    refine E_iload_n dX7_isWordHere_46 rfl ?_
    refine E_iadd dX7_isWordHere_47 ?_
    refine L_iald (j := (s + k)) dX7_isWordHere_48 (by decide) sh_4 (nI_add s k) (by omega) (by decide) ?_
    rw [hT.2 (s + k) (by omega)]
    refine E_aload_n dX7_isWordHere_49 rfl ?_
    refine E_iload_n dX7_isWordHere_50 rfl ?_
    refine E_VX1i hX hi xX7_71 dX7_isWordHere_51 (Nat.le_of_ble_eq_true rfl) (s_J0_charAt hX hi (by omega) ?_)
    refine E_icmp_eq dX7_isWordHere_54 (fun c54 => ?_) (fun c54 => ?_)
    · refine E_iinc (v := 1) dX7_isWordHere_59 rfl (by decide) (by decide) ?_
      refine E_goto dX7_isWordHere_62 ?_
      rw [nI_1]
      exact E.loc (by exact ⟨rfl, rfl, rfl, trivial⟩) (ih (k + 1) (by omega) (fun j hj => (Nat.lt_succ_iff_lt_or_eq.mp hj).elim (ha j) (fun z => z ▸ c54)))
    · refine E_ic (v := 0) dX7_isWordHere_57 (by decide) ?_
      refine E_iret dX7_isWordHere_58 rfl rfl ?_
      exact h0 (fun z => c54 (z k (by omega)))
theorem s_X7_isWordHere {Q : Int32 → HP → Prop} (hX : HasS Θ adK adV fv) {i : Nat} (hi : i < 6) (hl6 : lnS.getD i 0 ≤ 6) (hT : CT S b n) (hn : n ≤ 96) {s e : Nat} {t : Int32} (hk : MKc S s e t) (hse : s ≤ e) (hen : e ≤ n) (h1 : t = 256 → klE b s e i → Q 1 (lay Θ S)) (h0 : ¬ (t = 256 ∧ klE b s e i) → Q 0 (lay Θ S)) : C Θ (d + 4) 0 0 yX7_isWordHere cX7_isWordHere 3 (some .boolean) [.ref (tb Θ + 3), .ref (adK i)] 183 (lay Θ S) (Qi Q) := by
  refine C_of rfl rfl (Nat.le_of_ble_eq_true rfl) ?_
  refine E_aload_n dX7_isWordHere_0 rfl ?_
  refine L_get fX7_23 dX7_isWordHere_1 (by decide) sh_3 rfl ?_
  rw [hk.2.2]
  refine E_sipush (v := 256) dX7_isWordHere_4 (by decide) ?_
  refine E_icmp_ne dX7_isWordHere_7 (fun c7 => ?_) (fun c7 => ?_)
  · refine E_ic (v := 0) dX7_isWordHere_26 (by decide) ?_
    refine E_iret dX7_isWordHere_27 rfl rfl ?_
    exact h0 (fun z => c7 z.1)
  · refine E_aload_n dX7_isWordHere_10 rfl ?_
    refine L_get fX7_26 dX7_isWordHere_11 (by decide) sh_3 rfl ?_
    rw [hk.2.1]
    refine E_aload_n dX7_isWordHere_14 rfl ?_
    refine L_get fX7_50 dX7_isWordHere_15 (by decide) sh_3 rfl ?_
    rw [hk.1]
    refine E_isub dX7_isWordHere_18 ?_
    rw [pk_sub hse]
    refine E_aload_n dX7_isWordHere_19 rfl ?_
    refine E_VX0i hX hi xX7_67 dX7_isWordHere_20 (Nat.le_of_ble_eq_true rfl) (s_J0_length hX hi ?_)
    refine E_icmp_eq dX7_isWordHere_23 (fun c23 => ?_) (fun c23 => ?_)
    · refine E_ic (v := 0) dX7_isWordHere_28 (by decide) ?_
      refine E_istore_n dX7_isWordHere_29 (by decide) ?_
      have hes : e - s = lnS.getD i 0 := nI_inj (by omega) (by omega) c23
      exact E.loc (by exact ⟨rfl, rfl, rfl, trivial⟩) (l_X7_isWordHere hX hi hl6 hT hn hk hse hen hes (fun z => h1 c7 ⟨hes, z⟩) (fun z => h0 (fun y => z y.2.2)) _ 0 (Nat.zero_add _) (fun j hj => absurd hj (by omega)))
    · refine E_ic (v := 0) dX7_isWordHere_26 (by decide) ?_
      refine E_iret dX7_isWordHere_27 rfl rfl ?_
      exact h0 (fun z => c23 (by rw [z.2.1]))
theorem t0_X7_keyHere {Q : Int32 → HP → Prop} (hX : HasS Θ adK adV fv) (hT : CT S b n) (hn : n ≤ 96) {s e : Nat} {t : Int32} (hk : MKc S s e t) (hse : s ≤ e) (hen : e ≤ n) (h1 : t = 256 → klE b s e 0 → Q 0 (lay Θ S)) (K : ¬ (t = 256 ∧ klE b s e 0) → E Θ (d + 5) 0 0 yX7_keyHere cX7_keyHere 2 (some .int) 0 0 183 (lay Θ S) 2 [(1, .int 1), (0, .ref (tb Θ + 3))] [] (Qi Q)) : E Θ (d + 5) 0 0 yX7_keyHere cX7_keyHere 2 (some .int) 0 0 183 (lay Θ S) 2 [(1, .int 0), (0, .ref (tb Θ + 3))] [] (Qi Q) := by
  refine E_iload_n dX7_keyHere_2 rfl ?_
  refine E_ic (v := 3) dX7_keyHere_3 (by decide) ?_
  refine E_icmp_ge dX7_keyHere_4 (fun c => absurd c (by decide)) (fun _ => ?_)
  refine E_aload_n dX7_keyHere_7 rfl ?_
  refine E_iload_n dX7_keyHere_8 rfl ?_
  refine E_if_ne dX7_keyHere_9 (fun c => absurd rfl c) (fun _ => ?_)
  refine E_ldcS (i := 0) hX (by decide) rfl rfl dX7_keyHere_12 ?_
  refine E_goto dX7_keyHere_14 ?_
  refine E_V1i vX7_63_7 dX7_keyHere_29 (Nat.le_of_ble_eq_true rfl) (by decide) (sh_3 _) (s_X7_isWordHere (i := 0) hX (by decide) (by decide) hT hn hk hse hen (fun h6 hp => ?_) (fun hno => ?_))
  · refine E_if_eq dX7_keyHere_32 (fun c => absurd c (by decide)) (fun _ => ?_)
    refine E_iload_n dX7_keyHere_35 rfl ?_
    refine E_iret dX7_keyHere_36 rfl rfl ?_
    exact h1 h6 hp
  · refine E_if_eq dX7_keyHere_32 (fun _ => ?_) (fun c => absurd (by decide) c)
    refine E_iinc (v := 1) dX7_keyHere_37 rfl (by decide) (by decide) ?_
    refine E_goto dX7_keyHere_40 ?_
    rw [show (0 : Int32) + 1 = 1 from rfl]
    exact E.loc (by exact ⟨rfl, rfl, trivial⟩) (K hno)
theorem t1_X7_keyHere {Q : Int32 → HP → Prop} (hX : HasS Θ adK adV fv) (hT : CT S b n) (hn : n ≤ 96) {s e : Nat} {t : Int32} (hk : MKc S s e t) (hse : s ≤ e) (hen : e ≤ n) (h1 : t = 256 → klE b s e 1 → Q 1 (lay Θ S)) (K : ¬ (t = 256 ∧ klE b s e 1) → E Θ (d + 5) 0 0 yX7_keyHere cX7_keyHere 2 (some .int) 0 0 183 (lay Θ S) 2 [(1, .int 2), (0, .ref (tb Θ + 3))] [] (Qi Q)) : E Θ (d + 5) 0 0 yX7_keyHere cX7_keyHere 2 (some .int) 0 0 183 (lay Θ S) 2 [(1, .int 1), (0, .ref (tb Θ + 3))] [] (Qi Q) := by
  refine E_iload_n dX7_keyHere_2 rfl ?_
  refine E_ic (v := 3) dX7_keyHere_3 (by decide) ?_
  refine E_icmp_ge dX7_keyHere_4 (fun c => absurd c (by decide)) (fun _ => ?_)
  refine E_aload_n dX7_keyHere_7 rfl ?_
  refine E_iload_n dX7_keyHere_8 rfl ?_
  refine E_if_ne dX7_keyHere_9 (fun _ => ?_) (fun c => absurd c (by decide))
  refine E_iload_n dX7_keyHere_17 rfl ?_
  refine E_ic (v := 1) dX7_keyHere_18 (by decide) ?_
  refine E_icmp_ne dX7_keyHere_19 (fun c => absurd rfl c) (fun _ => ?_)
  refine E_ldcS (i := 1) hX (by decide) rfl rfl dX7_keyHere_22 ?_
  refine E_goto dX7_keyHere_24 ?_
  refine E_V1i vX7_63_7 dX7_keyHere_29 (Nat.le_of_ble_eq_true rfl) (by decide) (sh_3 _) (s_X7_isWordHere (i := 1) hX (by decide) (by decide) hT hn hk hse hen (fun h6 hp => ?_) (fun hno => ?_))
  · refine E_if_eq dX7_keyHere_32 (fun c => absurd c (by decide)) (fun _ => ?_)
    refine E_iload_n dX7_keyHere_35 rfl ?_
    refine E_iret dX7_keyHere_36 rfl rfl ?_
    exact h1 h6 hp
  · refine E_if_eq dX7_keyHere_32 (fun _ => ?_) (fun c => absurd (by decide) c)
    refine E_iinc (v := 1) dX7_keyHere_37 rfl (by decide) (by decide) ?_
    refine E_goto dX7_keyHere_40 ?_
    rw [show (1 : Int32) + 1 = 2 from rfl]
    exact E.loc (by exact ⟨rfl, rfl, trivial⟩) (K hno)
theorem t2_X7_keyHere {Q : Int32 → HP → Prop} (hX : HasS Θ adK adV fv) (hT : CT S b n) (hn : n ≤ 96) {s e : Nat} {t : Int32} (hk : MKc S s e t) (hse : s ≤ e) (hen : e ≤ n) (h1 : t = 256 → klE b s e 2 → Q 2 (lay Θ S)) (K : ¬ (t = 256 ∧ klE b s e 2) → E Θ (d + 5) 0 0 yX7_keyHere cX7_keyHere 2 (some .int) 0 0 183 (lay Θ S) 2 [(1, .int 3), (0, .ref (tb Θ + 3))] [] (Qi Q)) : E Θ (d + 5) 0 0 yX7_keyHere cX7_keyHere 2 (some .int) 0 0 183 (lay Θ S) 2 [(1, .int 2), (0, .ref (tb Θ + 3))] [] (Qi Q) := by
  refine E_iload_n dX7_keyHere_2 rfl ?_
  refine E_ic (v := 3) dX7_keyHere_3 (by decide) ?_
  refine E_icmp_ge dX7_keyHere_4 (fun c => absurd c (by decide)) (fun _ => ?_)
  refine E_aload_n dX7_keyHere_7 rfl ?_
  refine E_iload_n dX7_keyHere_8 rfl ?_
  refine E_if_ne dX7_keyHere_9 (fun _ => ?_) (fun c => absurd c (by decide))
  refine E_iload_n dX7_keyHere_17 rfl ?_
  refine E_ic (v := 1) dX7_keyHere_18 (by decide) ?_
  refine E_icmp_ne dX7_keyHere_19 (fun _ => ?_) (fun c => absurd c (by decide))
  refine E_ldcS (i := 2) hX (by decide) rfl rfl dX7_keyHere_27 ?_
  refine E_V1i vX7_63_7 dX7_keyHere_29 (Nat.le_of_ble_eq_true rfl) (by decide) (sh_3 _) (s_X7_isWordHere (i := 2) hX (by decide) (by decide) hT hn hk hse hen (fun h6 hp => ?_) (fun hno => ?_))
  · refine E_if_eq dX7_keyHere_32 (fun c => absurd c (by decide)) (fun _ => ?_)
    refine E_iload_n dX7_keyHere_35 rfl ?_
    refine E_iret dX7_keyHere_36 rfl rfl ?_
    exact h1 h6 hp
  · refine E_if_eq dX7_keyHere_32 (fun _ => ?_) (fun c => absurd (by decide) c)
    refine E_iinc (v := 1) dX7_keyHere_37 rfl (by decide) (by decide) ?_
    refine E_goto dX7_keyHere_40 ?_
    rw [show (2 : Int32) + 1 = 3 from rfl]
    exact E.loc (by exact ⟨rfl, rfl, trivial⟩) (K hno)
theorem s_X7_keyHere {Q : Int32 → HP → Prop} (hX : HasS Θ adK adV fv) (hT : CT S b n) (hn : n ≤ 96) {s e : Nat} {t : Int32} (hk : MKc S s e t) (hse : s ≤ e) (hen : e ≤ n) (hq : (keF b s e t = none → Q (-1) (lay Θ S)) ∧ ∀ i, keF b s e t = some i → Q (nI i) (lay Θ S)) : C Θ (d + 5) 0 0 yX7_keyHere cX7_keyHere 2 (some .int) [.ref (tb Θ + 3)] 183 (lay Θ S) (Qi Q) := by
  refine C_of rfl rfl (Nat.le_of_ble_eq_true rfl) ?_
  refine E_ic (v := 0) dX7_keyHere_0 (by decide) ?_
  refine E_istore_n dX7_keyHere_1 (by decide) ?_
  refine E.loc (by exact ⟨rfl, rfl, trivial⟩) (t0_X7_keyHere hX hT hn hk hse hen (fun h6 p0 => hq.2 0 (by rw [keF, if_pos h6, if_pos p0])) (fun n0 => ?_))
  refine t1_X7_keyHere hX hT hn hk hse hen (fun h6 p0 => hq.2 1 (by rw [keF, if_pos h6, if_neg (fun z => n0 ⟨h6, z⟩), if_pos p0])) (fun n1 => ?_)
  refine t2_X7_keyHere hX hT hn hk hse hen (fun h6 p0 => hq.2 2 (by rw [keF, if_pos h6, if_neg (fun z => n0 ⟨h6, z⟩), if_neg (fun z => n1 ⟨h6, z⟩), if_pos p0])) (fun n2 => ?_)
  refine E_iload_n dX7_keyHere_2 rfl ?_
  refine E_ic (v := 3) dX7_keyHere_3 (by decide) ?_
  refine E_icmp_ge dX7_keyHere_4 (fun _ => ?_) (fun c => absurd (by decide) c)
  refine E_ic (v := (-1)) dX7_keyHere_43 (by decide) ?_
  refine E_iret dX7_keyHere_44 rfl rfl ?_
  refine hq.1 ?_
  by_cases h6 : t = 256
  · rw [keF, if_pos h6, if_neg (fun z => n0 ⟨h6, z⟩), if_neg (fun z => n1 ⟨h6, z⟩), if_neg (fun z => n2 ⟨h6, z⟩)]
  · rw [keF, if_neg h6]
theorem t33_X7 {Q : Int32 → HP → Prop} (hX : HasS Θ adK adV fv) (ht : τ < 15) (h5 : S 3 5 = nI τ) (hL : HL τ S) (hT : CT S b n) (hn : n ≤ 96) {s e : Nat} {t : Int32} (hk : MKc S s e t) (hse : s ≤ e) (hen : e ≤ n) (hb : byOk b n) (hto : TkO b n s e t) (h6 : t = 256) {key : Nat} (hkey : S (86 + 3 * τ) 1 = nI key) (h3 : key < 3) (hq1 : (e - s = 1 ∧ ¬ nmR key (b s) < 0) → ∀ S', MKc S' (nxS b n e) (nxE b n e) (nxK b n e t) → (∀ Cc a, CPS S τ Cc a → Cc.length < 96 → CPS S' τ ((10000 + nmR key (b s)) :: Cc) (a + 1)) → HL τ S' → PCF τ S S' → Q 1 (lay Θ S')) (hq0 : ¬ (e - s = 1 ∧ ¬ nmR key (b s) < 0) → Q 0 (lay Θ S)) : E Θ (d + 4) 0 0 yX7_takeName cX7_takeName 3 (some .boolean) 0 0 183 (lay Θ S) 33 [(0, .ref (tb Θ + 3))] [.ref (adK (3 + key))] (Qi Q) := by
  have hlt := hto.2.2.2.1 (show ¬ t = 258 by rw [h6]; decide)
  obtain ⟨q, hq256, eq⟩ := hb s (by omega)
  have so := hto.2.2.2.2.1 h6 s (Nat.le_refl _) (by omega)
  rw [eq] at so
  have hq128 : q < 128 := by
    rcases soT_q hq256 with ⟨_, _, z⟩ | ⟨y, _, z⟩ | ⟨y, _, z⟩
    · omega
    · omega
    · rw [y] at so
      have := nI_inj (by omega) (by decide) (show nI q = nI 256 from so)
      omega
  refine E_astore_n dX7_takeName_33 (by decide) ?_
  refine E_aload_n dX7_takeName_34 rfl ?_
  refine E_aload_n dX7_takeName_35 rfl ?_
  refine L_get fX7_9 dX7_takeName_36 (by decide) sh_3 rfl ?_
  refine E_aload_n dX7_takeName_39 rfl ?_
  refine L_get fX7_50 dX7_takeName_40 (by decide) sh_3 rfl ?_
  rw [hk.1]
  refine L_iald (j := s) dX7_takeName_43 (by decide) sh_4 rfl (by omega) (by decide) ?_
  rw [hT.2 s (by omega), eq]
  refine E_i2c dX7_takeName_44 ?_
  rw [show ((nI q).toUInt32 % 65536).toInt32 = nI q from c_q ⟨q, hq128⟩]
  refine E_VX1i hX (j := 3 + key) (by omega) xX7_118 dX7_takeName_45 (Nat.le_of_ble_eq_true rfl) (s_J0_indexOf hX (by omega) hq128 ?_)
  rw [show ixS (3 + key) (nI q) (lnS.getD (3 + key) 0) 0 = nmR key (nI q) from ix_nm ⟨key, h3⟩ ⟨q, hq128⟩]
  refine E_istore_n dX7_takeName_48 (by decide) ?_
  refine E_aload_n dX7_takeName_49 rfl ?_
  refine L_get fX7_26 dX7_takeName_50 (by decide) sh_3 rfl ?_
  rw [hk.2.1]
  refine E_aload_n dX7_takeName_53 rfl ?_
  refine L_get fX7_50 dX7_takeName_54 (by decide) sh_3 rfl ?_
  rw [hk.1]
  refine E_isub dX7_takeName_57 ?_
  rw [pk_sub hse]
  refine E_ic (v := 1) dX7_takeName_58 (by decide) ?_
  refine E_icmp_ne dX7_takeName_59 (fun c59 => ?_) (fun c59 => ?_)
  · refine E_ic (v := 0) dX7_takeName_66 (by decide) ?_
    refine E_iret dX7_takeName_67 rfl rfl ?_
    exact hq0 (fun z => c59 (by rw [z.1]; rfl))
  · refine E_iload_n dX7_takeName_62 rfl ?_
    refine E_if_ge dX7_takeName_63 (fun c63 => ?_) (fun c63 => ?_)
    · refine E_aload_n dX7_takeName_68 rfl ?_
      refine L_get fX7_19 dX7_takeName_69 (by decide) sh_3 rfl ?_
      rw [tk_ref h5 ht]
      refine E_iload_n dX7_takeName_72 rfl ?_
      have hng : ¬ nmR key (nI q) < 0 := i_lt c63
      obtain ⟨j, ej, hj, -⟩ := nm_ix hng
      have h1 : e - s = 1 := nI_inj (by omega) (by decide) c59
      refine E_V1v vX7_121_8 dX7_takeName_73 (Nat.le_of_ble_eq_true rfl) (by have := ((isT_mk (t := τ) ht)).lt; omega) ((sh_T (isT_mk (t := τ) ht)) _) (s_X8_addName ht hL (c := 10000 + nmR key (nI q)) (by rw [ej]; exact nm_tr ⟨j, hj⟩) (fun S9 h9 c9 f9 => ?_))
      refine E_aload_n dX7_takeName_76 rfl ?_
      have k9 := hk.af f9
      refine E_V0v vX7_29_7 dX7_takeName_77 (Nat.le_of_ble_eq_true rfl) (by decide) (sh_3 _) (s_X7_goOn (hT.pf f9.p) hn k9 hen (fun S8 k8 f8 => ?_))
      refine E_ic (v := 1) dX7_takeName_80 (by decide) ?_
      refine E_iret dX7_takeName_81 rfl rfl ?_
      rw [eq] at hq1
      exact hq1 ⟨h1, hng⟩ S8 k8 (fun Cc a hc hl => (c9 Cc a hc hl).cf f8) (h9.cf f8) (f9.p.tr f8.p)
    · refine E_ic (v := 0) dX7_takeName_66 (by decide) ?_
      refine E_iret dX7_takeName_67 rfl rfl ?_
      exact hq0 (fun z => z.2 (by rw [eq]; exact i_nle c63))
theorem s_X7_takeName {Q : Int32 → HP → Prop} (hX : HasS Θ adK adV fv) (ht : τ < 15) (h5 : S 3 5 = nI τ) (hL : HL τ S) (hT : CT S b n) (hn : n ≤ 96) {s e : Nat} {t : Int32} (hk : MKc S s e t) (hse : s ≤ e) (hen : e ≤ n) (hb : byOk b n) (hto : TkO b n s e t) (h6 : t = 256) {key : Nat} (hkey : S (86 + 3 * τ) 1 = nI key) (h3 : key < 3) (hq1 : (e - s = 1 ∧ ¬ nmR key (b s) < 0) → ∀ S', MKc S' (nxS b n e) (nxE b n e) (nxK b n e t) → (∀ Cc a, CPS S τ Cc a → Cc.length < 96 → CPS S' τ ((10000 + nmR key (b s)) :: Cc) (a + 1)) → HL τ S' → PCF τ S S' → Q 1 (lay Θ S')) (hq0 : ¬ (e - s = 1 ∧ ¬ nmR key (b s) < 0) → Q 0 (lay Θ S)) : C Θ (d + 4) 0 0 yX7_takeName cX7_takeName 3 (some .boolean) [.ref (tb Θ + 3)] 183 (lay Θ S) (Qi Q) := by
  refine C_of rfl rfl (Nat.le_of_ble_eq_true rfl) ?_
  have K := t33_X7 (d := d) hX ht h5 hL hT hn hk hse hen hb hto h6 hkey h3 hq1 hq0
  rcases (show key = 0 ∨ key = 1 ∨ key = 2 by omega) with rfl | rfl | rfl
  · refine E_aload_n dX7_takeName_0 rfl ?_
    refine L_get fX7_19 dX7_takeName_1 (by decide) sh_3 rfl ?_
    rw [tk_ref h5 ht]
    refine L_get fX7_109 dX7_takeName_4 (by have := ((isT_mk (t := τ) ht)).lt; omega) (sh_T (isT_mk (t := τ) ht)) rfl ?_
    rw [hkey]
    refine E_if_ne dX7_takeName_7 (fun c => absurd rfl c) (fun _ => ?_)
    refine E_ldcS (i := 3) hX (by decide) rfl rfl dX7_takeName_10 ?_
    refine E_goto dX7_takeName_12 ?_
    exact E.loc (by exact ⟨rfl, trivial⟩) K
  · refine E_aload_n dX7_takeName_0 rfl ?_
    refine L_get fX7_19 dX7_takeName_1 (by decide) sh_3 rfl ?_
    rw [tk_ref h5 ht]
    refine L_get fX7_109 dX7_takeName_4 (by have := ((isT_mk (t := τ) ht)).lt; omega) (sh_T (isT_mk (t := τ) ht)) rfl ?_
    rw [hkey]
    refine E_if_ne dX7_takeName_7 (fun _ => ?_) (fun c => absurd c (by decide))
    refine E_aload_n dX7_takeName_15 rfl ?_
    refine L_get fX7_19 dX7_takeName_16 (by decide) sh_3 rfl ?_
    rw [tk_ref h5 ht]
    refine L_get fX7_109 dX7_takeName_19 (by have := ((isT_mk (t := τ) ht)).lt; omega) (sh_T (isT_mk (t := τ) ht)) rfl ?_
    rw [hkey]
    refine E_ic (v := 1) dX7_takeName_22 (by decide) ?_
    refine E_icmp_ne dX7_takeName_23 (fun c => absurd rfl c) (fun _ => ?_)
    refine E_ldcS (i := 4) hX (by decide) rfl rfl dX7_takeName_26 ?_
    refine E_goto dX7_takeName_28 ?_
    exact E.loc (by exact ⟨rfl, trivial⟩) K
  · refine E_aload_n dX7_takeName_0 rfl ?_
    refine L_get fX7_19 dX7_takeName_1 (by decide) sh_3 rfl ?_
    rw [tk_ref h5 ht]
    refine L_get fX7_109 dX7_takeName_4 (by have := ((isT_mk (t := τ) ht)).lt; omega) (sh_T (isT_mk (t := τ) ht)) rfl ?_
    rw [hkey]
    refine E_if_ne dX7_takeName_7 (fun _ => ?_) (fun c => absurd c (by decide))
    refine E_aload_n dX7_takeName_15 rfl ?_
    refine L_get fX7_19 dX7_takeName_16 (by decide) sh_3 rfl ?_
    rw [tk_ref h5 ht]
    refine L_get fX7_109 dX7_takeName_19 (by have := ((isT_mk (t := τ) ht)).lt; omega) (sh_T (isT_mk (t := τ) ht)) rfl ?_
    rw [hkey]
    refine E_ic (v := 1) dX7_takeName_22 (by decide) ?_
    refine E_icmp_ne dX7_takeName_23 (fun _ => ?_) (fun c => absurd c (by decide))
    refine E_ldcS (i := 5) hX (by decide) rfl rfl dX7_takeName_31 ?_
    exact E.loc (by exact ⟨rfl, trivial⟩) K
end Wo
