/-! the class's text under way: adding to it; a number and a name -/
theorem tk_ref {Θ : Th} {S : SS} {τ : Nat} (h : S 3 5 = nI τ) (ht : τ < 15) : va_rf (tref Θ (S 3 5)) = .ref (tb Θ + (86 + 3 * τ)) := by
  rw [h, tref, if_neg (show ¬ nI τ < 0 from i_lt (nI_le (a := 0) (Nat.zero_le τ) (by omega))), nI_clamp (by omega)]
  rfl
def AF (τ : Nat) (S S' : SS) : Prop := (∀ j, j ≠ 2 → j ≠ 3 → S' (86 + 3 * τ) j = S (86 + 3 * τ) j) ∧ ∀ k, k ≠ 86 + 3 * τ → k ≠ 86 + 3 * τ + 1 → S' k = S k
theorem AF.rf {τ : Nat} {S : SS} : AF τ S S := ⟨fun _ _ _ => rfl, fun _ _ _ => rfl⟩
theorem AF.tr {τ : Nat} {S S' S'' : SS} (h : AF τ S S') (h' : AF τ S' S'') : AF τ S S'' := ⟨fun j a b => (h'.1 j a b).trans (h.1 j a b), fun k a b => (h'.2 k a b).trans (h.2 k a b)⟩
/-- what reading may change -/
def PCF (τ : Nat) (S S' : SS) : Prop := (∀ j, (j < 2 ∨ 4 < j) → S' 3 j = S 3 j) ∧ (∀ j, j ≠ 2 → j ≠ 3 → S' (86 + 3 * τ) j = S (86 + 3 * τ) j) ∧ ∀ k, k ≠ 3 → k ≠ 86 + 3 * τ → k ≠ 86 + 3 * τ + 1 → S' k = S k
theorem PCF.rf {τ : Nat} {S : SS} : PCF τ S S := ⟨fun _ _ => rfl, fun _ _ _ => rfl, fun _ _ _ _ => rfl⟩
theorem PCF.tr {τ : Nat} {S S' S'' : SS} (h : PCF τ S S') (h' : PCF τ S' S'') : PCF τ S S'' := ⟨fun j a => (h'.1 j a).trans (h.1 j a), fun j a b => (h'.2.1 j a b).trans (h.2.1 j a b), fun k a b c => (h'.2.2 k a b c).trans (h.2.2 k a b c)⟩
theorem AF.p {τ : Nat} {S S' : SS} (h : AF τ S S') : PCF τ S S' := ⟨fun j _ => by rw [h.2 3 (by omega) (by omega)], h.1, fun k _ a b => h.2 k a b⟩
theorem CFr.p {τ : Nat} {S S' : SS} (h : CFr S S') : PCF τ S S' := ⟨h.1, fun j _ _ => by rw [h.2 _ (by omega)], fun k a _ _ => h.2 k a⟩
theorem CT.pf {τ : Nat} {S S' : SS} {b : Nat → Int32} {n : Nat} (h : CT S b n) (hf : PCF τ S S') : CT S' b n := ⟨by rw [hf.1 1 (by omega)]; exact h.1, fun k hk => by rw [hf.2.2 4 (by omega) (by omega) (by omega)]; exact h.2 k hk⟩
theorem MKc.af {τ : Nat} {S S' : SS} {s e : Nat} {t : Int32} (h : MKc S s e t) (hf : AF τ S S') : MKc S' s e t := by
  unfold MKc
  rw [hf.2 3 (by omega) (by omega)]
  exact h
theorem CPS.cf {τ : Nat} {S S' : SS} {Cc : List Int32} {at_ : Nat} (h : CPS S τ Cc at_) (hf : CFr S S') : CPS S' τ Cc at_ := by
  unfold CPS
  rw [hf.2 (86 + 3 * τ) (by omega), hf.2 (86 + 3 * τ + 1) (by omega)]
  exact h
theorem HL.cf {τ : Nat} {S S' : SS} (h : HL τ S) (hf : CFr S S') : HL τ S' := by
  unfold HL
  rw [hf.2 (86 + 3 * τ) (by omega)]
  exact h
theorem CPS.hl {τ : Nat} {S : SS} {Cc : List Int32} {at_ : Nat} (h : CPS S τ Cc at_) (h96 : Cc.length ≤ 96) : HL τ S := ⟨_, h.1, h96⟩
section Ad
variable {Θ : Th} {d : Nat} {S : SS} {b : Nat → Int32} {n τ : Nat}
theorem s_X8_addCode {Q : HP → Prop} (ht : τ < 15) (hL : HL τ S) {x c : Int32} (hx : x = trC c) (hq : ∀ S', HL τ S' → (∀ Cc a, CPS S τ Cc a → Cc.length < 96 → CPS S' τ (c :: Cc) a) → AF τ S S' → Q (lay Θ S')) : C Θ d 0 0 yX8_addCode cX8_addCode 2 none [.ref (tb Θ + (86 + 3 * τ)), .int x] 183 (lay Θ S) (Qv Q) := by
  refine C_of rfl rfl (Nat.le_of_ble_eq_true rfl) ?_
  obtain ⟨q, eq, hq96⟩ := hL
  refine E_aload_n dX8_addCode_0 rfl ?_
  refine L_get fX8_28 dX8_addCode_1 (by have := ((isT_mk (t := τ) ht)).lt; omega) (sh_T (isT_mk (t := τ) ht)) rfl ?_
  rw [eq]
  refine E_aload_n dX8_addCode_4 rfl ?_
  refine L_get fX8_9 dX8_addCode_5 (by have := ((isT_mk (t := τ) ht)).lt; omega) (sh_T (isT_mk (t := τ) ht)) rfl ?_
  refine L_alen dX8_addCode_8 (by have := ((isT_mk (t := τ) ht)).lt; omega) (sh_Tc (isT_mk (t := τ) ht)) rfl ?_
  refine E_icmp_ge dX8_addCode_9 (fun c9 => ?_) (fun c9 => ?_)
  · refine E_vret dX8_addCode_32 rfl rfl ?_
    have h96 : q = 96 := by
      have := (nI_leI (a := 96) (by decide) (by omega)).mp c9
      omega
    exact hq S ⟨q, eq, hq96⟩ (fun Cc a hc hl => absurd (nI_inj (by omega) (by omega) (hc.1.symm.trans eq)) (by omega)) AF.rf
  · refine E_aload_n dX8_addCode_12 rfl ?_
    refine L_get fX8_9 dX8_addCode_13 (by have := ((isT_mk (t := τ) ht)).lt; omega) (sh_T (isT_mk (t := τ) ht)) rfl ?_
    refine E_aload_n dX8_addCode_16 rfl ?_
    refine L_get fX8_28 dX8_addCode_17 (by have := ((isT_mk (t := τ) ht)).lt; omega) (sh_T (isT_mk (t := τ) ht)) rfl ?_
    rw [eq]
    refine E_iload_n dX8_addCode_20 rfl ?_
    refine L_iast (j := q) dX8_addCode_21 (by have := ((isT_mk (t := τ) ht)).lt; omega) (sh_Tc (isT_mk (t := τ) ht)) rfl (by have := i_nle c9; have := (nI_ltI (b := 96) (by omega) (by decide)).mp this; omega) (by decide) ?_
    refine E_aload_n dX8_addCode_22 rfl ?_
    refine E_dup dX8_addCode_23 rfl ?_
    refine L_get fX8_28 dX8_addCode_24 (by have := ((isT_mk (t := τ) ht)).lt; omega) (sh_T (isT_mk (t := τ) ht)) rfl ?_
    rw [wr_ne (by omega), eq]
    refine E_ic (v := 1) dX8_addCode_27 (by decide) ?_
    refine E_iadd dX8_addCode_28 ?_
    rw [nI_1]
    refine L_puti fX8_28 dX8_addCode_29 (by have := ((isT_mk (t := τ) ht)).lt; omega) (sh_T (isT_mk (t := τ) ht)) (Nat.le_of_ble_eq_true rfl) rfl ?_
    refine E_vret dX8_addCode_32 rfl rfl ?_
    have hlt : q < 96 := (nI_ltI (b := 96) (by omega) (by decide)).mp (i_nle c9)
    refine hq _ ⟨q + 1, by rw [wr_at, pk_us], by omega⟩ (fun Cc a hc hl => ?_) ⟨fun j h1 h2 => by rw [wr_at, pk_un h2, wr_ne (by omega)], fun k h1 h2 => by rw [wr_ne h1, wr_ne h2]⟩
    have eL : Cc.length = q := nI_inj (by omega) (by omega) (hc.1.symm.trans eq)
    refine ⟨by rw [wr_at, pk_us, List.length_cons, eL], ?_, by rw [wr_at, pk_un (by decide), wr_ne (by omega)]; exact hc.2.2⟩
    rw [wr_ne (by omega), wr_at, List.map_cons, ← eL, ← List.length_map (f := trC), hx]
    exact hc.2.1.push
theorem s_X8_addSign {Q : HP → Prop} (ht : τ < 15) (hL : HL τ S) {x c : Int32} (hx : 10000 + x = trC c) (hq : ∀ S', HL τ S' → (∀ Cc a, CPS S τ Cc a → Cc.length < 96 → CPS S' τ (c :: Cc) a) → AF τ S S' → Q (lay Θ S')) : C Θ (d + 1) 0 0 yX8_addSign cX8_addSign 2 none [.ref (tb Θ + (86 + 3 * τ)), .int x] 183 (lay Θ S) (Qv Q) := by
  refine C_of rfl rfl (Nat.le_of_ble_eq_true rfl) ?_
  refine E_aload_n dX8_addSign_0 rfl ?_
  refine E_sipush (v := 10000) dX8_addSign_1 (by decide) ?_
  refine E_iload_n dX8_addSign_4 rfl ?_
  refine E_iadd dX8_addSign_5 ?_
  refine E_V1v vX8_31_8 dX8_addSign_6 (Nat.le_of_ble_eq_true rfl) (by have := ((isT_mk (t := τ) ht)).lt; omega) ((sh_T (isT_mk (t := τ) ht)) _) (s_X8_addCode ht hL hx (fun S9 h9 c9 f9 => ?_))
  refine E_vret dX8_addSign_9 rfl rfl ?_
  exact hq S9 h9 c9 f9
theorem s_X8_addNumber {Q : HP → Prop} (ht : τ < 15) (hL : HL τ S) {x c : Int32} (hx : x = trC c) (hq : ∀ S', HL τ S' → (∀ Cc a, CPS S τ Cc a → Cc.length < 96 → CPS S' τ (c :: Cc) (a + 1)) → AF τ S S' → Q (lay Θ S')) : C Θ (d + 1) 0 0 yX8_addNumber cX8_addNumber 2 none [.ref (tb Θ + (86 + 3 * τ)), .int x] 183 (lay Θ S) (Qv Q) := by
  refine C_of rfl rfl (Nat.le_of_ble_eq_true rfl) ?_
  refine E_aload_n dX8_addNumber_0 rfl ?_
  refine E_dup dX8_addNumber_1 rfl ?_
  refine L_get fX8_25 dX8_addNumber_2 (by have := ((isT_mk (t := τ) ht)).lt; omega) (sh_T (isT_mk (t := τ) ht)) rfl ?_
  refine E_ic (v := 1) dX8_addNumber_5 (by decide) ?_
  refine E_iadd dX8_addNumber_6 ?_
  refine L_puti fX8_25 dX8_addNumber_7 (by have := ((isT_mk (t := τ) ht)).lt; omega) (sh_T (isT_mk (t := τ) ht)) (Nat.le_of_ble_eq_true rfl) rfl ?_
  refine E_aload_n dX8_addNumber_10 rfl ?_
  refine E_iload_n dX8_addNumber_11 rfl ?_
  have hL2 : HL τ (wr S (86 + 3 * τ) 2 (S (86 + 3 * τ) 2 + 1)) := by
    obtain ⟨q, eq, h9⟩ := hL
    exact ⟨q, by rw [wr_at, pk_un (by decide)]; exact eq, h9⟩
  have fW : AF τ S (wr S (86 + 3 * τ) 2 (S (86 + 3 * τ) 2 + 1)) := ⟨fun j h1 h2 => by rw [wr_at, pk_un h1], fun k h1 h2 => wr_ne h1⟩
  have cW : ∀ Cc a, CPS S τ Cc a → CPS (wr S (86 + 3 * τ) 2 (S (86 + 3 * τ) 2 + 1)) τ Cc (a + 1) := fun Cc a hc => ⟨by rw [wr_at, pk_un (by decide)]; exact hc.1, by rw [wr_ne (by omega)]; exact hc.2.1, by rw [wr_at, pk_us, hc.2.2, nI_1]⟩
  refine E_V1v vX8_31_8 dX8_addNumber_12 (Nat.le_of_ble_eq_true rfl) (by have := ((isT_mk (t := τ) ht)).lt; omega) ((sh_T (isT_mk (t := τ) ht)) _) (s_X8_addCode ht hL2 hx (fun S9 h9 c9 f9 => ?_))
  refine E_vret dX8_addNumber_15 rfl rfl ?_
  exact hq S9 h9 (fun Cc a hc hl => c9 Cc (a + 1) (cW Cc a hc) hl) (fW.tr f9)
theorem s_X8_addName {Q : HP → Prop} (ht : τ < 15) (hL : HL τ S) {x c : Int32} (hx : -1 - x = trC c) (hq : ∀ S', HL τ S' → (∀ Cc a, CPS S τ Cc a → Cc.length < 96 → CPS S' τ (c :: Cc) (a + 1)) → AF τ S S' → Q (lay Θ S')) : C Θ (d + 1) 0 0 yX8_addName cX8_addName 2 none [.ref (tb Θ + (86 + 3 * τ)), .int x] 183 (lay Θ S) (Qv Q) := by
  refine C_of rfl rfl (Nat.le_of_ble_eq_true rfl) ?_
  refine E_aload_n dX8_addName_0 rfl ?_
  refine E_dup dX8_addName_1 rfl ?_
  refine L_get fX8_25 dX8_addName_2 (by have := ((isT_mk (t := τ) ht)).lt; omega) (sh_T (isT_mk (t := τ) ht)) rfl ?_
  refine E_ic (v := 1) dX8_addName_5 (by decide) ?_
  refine E_iadd dX8_addName_6 ?_
  refine L_puti fX8_25 dX8_addName_7 (by have := ((isT_mk (t := τ) ht)).lt; omega) (sh_T (isT_mk (t := τ) ht)) (Nat.le_of_ble_eq_true rfl) rfl ?_
  refine E_aload_n dX8_addName_10 rfl ?_
  refine E_ic (v := (-1)) dX8_addName_11 (by decide) ?_
  refine E_iload_n dX8_addName_12 rfl ?_
  refine E_isub dX8_addName_13 ?_
  have hL2 : HL τ (wr S (86 + 3 * τ) 2 (S (86 + 3 * τ) 2 + 1)) := by
    obtain ⟨q, eq, h9⟩ := hL
    exact ⟨q, by rw [wr_at, pk_un (by decide)]; exact eq, h9⟩
  have fW : AF τ S (wr S (86 + 3 * τ) 2 (S (86 + 3 * τ) 2 + 1)) := ⟨fun j h1 h2 => by rw [wr_at, pk_un h1], fun k h1 h2 => wr_ne h1⟩
  have cW : ∀ Cc a, CPS S τ Cc a → CPS (wr S (86 + 3 * τ) 2 (S (86 + 3 * τ) 2 + 1)) τ Cc (a + 1) := fun Cc a hc => ⟨by rw [wr_at, pk_un (by decide)]; exact hc.1, by rw [wr_ne (by omega)]; exact hc.2.1, by rw [wr_at, pk_us, hc.2.2, nI_1]⟩
  refine E_V1v vX8_31_8 dX8_addName_14 (Nat.le_of_ble_eq_true rfl) (by have := ((isT_mk (t := τ) ht)).lt; omega) ((sh_T (isT_mk (t := τ) ht)) _) (s_X8_addCode ht hL2 hx (fun S9 h9 c9 f9 => ?_))
  refine E_vret dX8_addName_17 rfl rfl ?_
  exact hq S9 h9 (fun Cc a hc hl => c9 Cc (a + 1) (cW Cc a hc) hl) (fW.tr f9)
theorem l_X7_takeNumber {Q : Int32 → HP → Prop} (hT : CT S b n) (hn : n ≤ 96) {s e : Nat} {t : Int32} (hk : MKc S s e t) (hse : s ≤ e) (hen : e ≤ n) (K : E Θ (d + 3) 0 0 yX7_takeNumber cX7_takeNumber 3 (some .boolean) 0 0 183 (lay Θ S) 51 [(1, .int (nuF b s (e - s))), (0, .ref (tb Θ + 3))] [] (Qi Q)) : ∀ (f : Nat) (x1 x2 : Int32) (j : Nat), x1 = nuF b s j → x2 = nI (s + j) → s + j + f = e → E Θ (d + 3) 0 0 yX7_takeNumber cX7_takeNumber 3 (some .boolean) 0 0 183 (lay Θ S) 22 [(2, .int x2), (1, .int x1), (0, .ref (tb Θ + 3))] [] (Qi Q) := by
  intro f
  induction f with
  | zero =>
    intro x1 x2 j hx1 hx2 hf
    refine E_iload_n dX7_takeNumber_22 rfl ?_
    refine E_aload_n dX7_takeNumber_23 rfl ?_
    refine L_get fX7_26 dX7_takeNumber_24 (by decide) sh_3 rfl ?_
    rw [hk.2.1]
    refine E_icmp_ge dX7_takeNumber_27 (fun _ => ?_) (fun c => absurd (by rw [hx2]; exact nI_le (by omega) (by omega)) c)
    obtain rfl : j = e - s := by omega
    rw [hx1]
    exact E.loc (by exact ⟨rfl, rfl, trivial⟩) K
  | succ f ih =>
    intro x1 x2 j hx1 hx2 hf
    refine E_iload_n dX7_takeNumber_22 rfl ?_
    refine E_aload_n dX7_takeNumber_23 rfl ?_
    refine L_get fX7_26 dX7_takeNumber_24 (by decide) sh_3 rfl ?_
    rw [hk.2.1]
    refine E_icmp_ge dX7_takeNumber_27 (fun c => absurd c (fun z => absurd ((nI_leI (by omega) (by omega)).mp (hx2 ▸ z)) (by omega))) (fun _ => ?_)
    refine E_bipush (v := 10) dX7_takeNumber_30 (by decide) ?_
    refine E_iload_n dX7_takeNumber_32 rfl ?_
    refine E_imul dX7_takeNumber_33 ?_
    refine E_aload_n dX7_takeNumber_34 rfl ?_
    refine L_get fX7_9 dX7_takeNumber_35 (by decide) sh_3 rfl ?_
    refine E_iload_n dX7_takeNumber_38 rfl ?_
    refine L_iald (j := (s + j)) dX7_takeNumber_39 (by decide) sh_4 hx2 (by omega) (by decide) ?_
    rw [hT.2 (s + j) (by omega)]
    refine E_iadd dX7_takeNumber_40 ?_
    refine E_bipush (v := 48) dX7_takeNumber_41 (by decide) ?_
    refine E_isub dX7_takeNumber_43 ?_
    refine E_istore_n dX7_takeNumber_44 (by decide) ?_
    refine E_iinc (v := 1) dX7_takeNumber_45 rfl (by decide) (by decide) ?_
    refine E_goto dX7_takeNumber_48 ?_
    exact E.loc (by exact ⟨rfl, rfl, rfl, trivial⟩) (ih _ _ (j + 1) (by rw [hx1, nuF]) (by rw [hx2, nI_1, Nat.add_assoc]) (by omega))
theorem t51_X7 {Q : Int32 → HP → Prop} (ht : τ < 15) (h5 : S 3 5 = nI τ) (hL : HL τ S) (hT : CT S b n) (hn : n ≤ 96) {s e : Nat} {t : Int32} (hk : MKc S s e t) (hse : s ≤ e) (hen : e ≤ n) (hx : nuF b s (e - s) = trC (nuF b s (e - s))) (hq : ∀ S', MKc S' (nxS b n e) (nxE b n e) (nxK b n e t) → (∀ Cc a, CPS S τ Cc a → Cc.length < 96 → CPS S' τ (nuF b s (e - s) :: Cc) (a + 1)) → HL τ S' → PCF τ S S' → Q 1 (lay Θ S')) : E Θ (d + 3) 0 0 yX7_takeNumber cX7_takeNumber 3 (some .boolean) 0 0 183 (lay Θ S) 51 [(1, .int (nuF b s (e - s))), (0, .ref (tb Θ + 3))] [] (Qi Q) := by
  refine E_aload_n dX7_takeNumber_51 rfl ?_
  refine L_get fX7_19 dX7_takeNumber_52 (by decide) sh_3 rfl ?_
  rw [tk_ref h5 ht]
  refine E_iload_n dX7_takeNumber_55 rfl ?_
  refine E_V1v vX7_106_8 dX7_takeNumber_56 (Nat.le_of_ble_eq_true rfl) (by have := ((isT_mk (t := τ) ht)).lt; omega) ((sh_T (isT_mk (t := τ) ht)) _) (s_X8_addNumber ht hL (c := nuF b s (e - s)) hx (fun S9 h9 c9 f9 => ?_))
  refine E_aload_n dX7_takeNumber_59 rfl ?_
  have k9 := hk.af f9
  refine E_V0v vX7_29_7 dX7_takeNumber_60 (Nat.le_of_ble_eq_true rfl) (by decide) (sh_3 _) (s_X7_goOn (hT.pf f9.p) hn k9 hen (fun S8 k8 f8 => ?_))
  refine E_ic (v := 1) dX7_takeNumber_63 (by decide) ?_
  refine E_iret dX7_takeNumber_64 rfl rfl ?_
  exact hq S8 k8 (fun Cc a hc hl => (c9 Cc a hc hl).cf f8) (h9.cf f8) (f9.p.tr f8.p)
theorem s_X7_takeNumber {Q : Int32 → HP → Prop} (ht : τ < 15) (h5 : S 3 5 = nI τ) (hL : HL τ S) (hT : CT S b n) (hn : n ≤ 96) {s e : Nat} {t : Int32} (hk : MKc S s e t) (hse : s ≤ e) (hen : e ≤ n) (hx : e - s ≤ 4 → nuF b s (e - s) = trC (nuF b s (e - s))) (hq1 : e - s ≤ 4 → ∀ S', MKc S' (nxS b n e) (nxE b n e) (nxK b n e t) → (∀ Cc a, CPS S τ Cc a → Cc.length < 96 → CPS S' τ (nuF b s (e - s) :: Cc) (a + 1)) → HL τ S' → PCF τ S S' → Q 1 (lay Θ S')) (hq0 : ¬ e - s ≤ 4 → Q 0 (lay Θ S)) : C Θ (d + 3) 0 0 yX7_takeNumber cX7_takeNumber 3 (some .boolean) [.ref (tb Θ + 3)] 183 (lay Θ S) (Qi Q) := by
  refine C_of rfl rfl (Nat.le_of_ble_eq_true rfl) ?_
  by_cases h4 : e - s ≤ 4
  · refine E_aload_n dX7_takeNumber_0 rfl ?_
    refine L_get fX7_26 dX7_takeNumber_1 (by decide) sh_3 rfl ?_
    rw [hk.2.1]
    refine E_aload_n dX7_takeNumber_4 rfl ?_
    refine L_get fX7_50 dX7_takeNumber_5 (by decide) sh_3 rfl ?_
    rw [hk.1]
    refine E_isub dX7_takeNumber_8 ?_
    rw [pk_sub hse]
    refine E_ic (v := 4) dX7_takeNumber_9 (by decide) ?_
    refine E_icmp_le dX7_takeNumber_10 (fun _ => ?_) (fun c => absurd (nI_le (b := 4) (by omega) (by decide)) c)
    refine E_ic (v := 0) dX7_takeNumber_15 (by decide) ?_
    refine E_istore_n dX7_takeNumber_16 (by decide) ?_
    refine E_aload_n dX7_takeNumber_17 rfl ?_
    refine L_get fX7_50 dX7_takeNumber_18 (by decide) sh_3 rfl ?_
    rw [hk.1]
    refine E_istore_n dX7_takeNumber_21 (by decide) ?_
    exact E.loc (by exact ⟨rfl, rfl, rfl, trivial⟩) (l_X7_takeNumber hT hn hk hse hen (t51_X7 ht h5 hL hT hn hk hse hen (hx h4) (hq1 h4)) (e - s) 0 _ 0 rfl rfl (by omega))
  · refine E_aload_n dX7_takeNumber_0 rfl ?_
    refine L_get fX7_26 dX7_takeNumber_1 (by decide) sh_3 rfl ?_
    rw [hk.2.1]
    refine E_aload_n dX7_takeNumber_4 rfl ?_
    refine L_get fX7_50 dX7_takeNumber_5 (by decide) sh_3 rfl ?_
    rw [hk.1]
    refine E_isub dX7_takeNumber_8 ?_
    rw [pk_sub hse]
    refine E_ic (v := 4) dX7_takeNumber_9 (by decide) ?_
    refine E_icmp_le dX7_takeNumber_10 (fun c => absurd c (fun z => h4 ((nI_leI (b := 4) (by omega) (by decide)).mp z))) (fun _ => ?_)
    refine E_ic (v := 0) dX7_takeNumber_13 (by decide) ?_
    refine E_iret dX7_takeNumber_14 rfl rfl ?_
    exact hq0 h4
end Ad
