/-! the class's tests, and all levels together -/
section Te
variable {Θ : Th} {b : Nat → Int32} {n τ key : Nat} {adK adV : Nat → Nat} {fv : Value}
theorem p_X7_takeTest {X : Nat} (ht : τ < 15) (hb : byOk b n) (hn : n ≤ 96) {m par nots lo : Nat} {W : List Int32} {te : Nat → Bool} {R0 : OU → Prop} {Q : Int32 → HP → Prop} {S0 : SS} (hS : LvP Θ b n τ key 4 m G1 (cSum Θ (X + 7))) (hm : (8 - par) + (8 - nots) = m) (hsd : Sd 3 W) (enW : nots = nnF W) (h50 : S0 3 5 = nI τ) (hk0 : S0 (86 + 3 * τ) 1 = nI key) (hq1 : ∀ S', GP b n key τ 3 3 par lo W te R0 S' → PCF τ S0 S' → Q 1 (lay Θ S')) (hq0 : ∀ S', FltP τ R0 S' → PCF τ S0 S' → Q 0 (lay Θ S'))  : ∀ (S : SS) (nots' : Nat) (W' C' : List Int32) (at' : Nat) (te' : Nat → Bool) (s' e' : Nat) (t' : Int32) (Cc : List Int32), CT S b n → MKc S s' e' t' → CPS S τ Cc at' → PIn b n key (false, par, nots', W', C', at', te', s', e', t') → stl 3 W' C' = (W, Cc) → (∀ q, q < par → te' q = te q) → te' par = false → lo < s' → (∀ o, Rx b n key (false, par, nots', W', C', at', te', s', e', t') o → R0 o) → PCF τ S0 S → sgL 3 t' → E Θ (X + 8) 0 0 yX7_takeTest cX7_takeTest 5 (some .boolean) 0 0 183 (lay Θ S) 38 [(3, .int 1), (2, .int (nI nots)), (1, .int (nI par)), (0, .ref (tb Θ + 3))] [] (Qi Q) := by
  intro S nots' W' C' at' te' s' e' t' Cc hT k7 c7 p7 v7 q7 u7 l7 r7 hF sl
  obtain ⟨a1, a2, a3, a4, a5, a6, a7⟩ := op_step (lo := lo) (te := te) hb (by decide) sl (fun _ => u7) enW p7 v7 r7
  have hs2 := nxS_le (b := b) a3
  refine E_aload_n dX7_takeTest_38 rfl ?_
  refine L_get fX7_23 dX7_takeTest_39 (by decide) sh_3 rfl ?_
  rw [k7.2.2]
  refine E_istore dX7_takeTest_42 (by decide) ?_
  refine E_aload_n dX7_takeTest_44 rfl ?_
  refine E_V0v vX7_29_7 dX7_takeTest_45 (Nat.le_of_ble_eq_true rfl) (by decide) (sh_3 _) (s_X7_goOn hT hn k7 a3 (fun S1 k1 f1 => ?_))
  refine E_aload_n dX7_takeTest_48 rfl ?_
  refine E_iload_n dX7_takeTest_49 rfl ?_
  refine E_iload_n dX7_takeTest_50 rfl ?_
  refine E_V2i vX7_84_7 dX7_takeTest_51 (Nat.le_of_ble_eq_true rfl) (by decide) (sh_3 _) (hS S1 par nots (sgF t' :: W) Cc at' _ _ _ _ R0 _ trivial (hT.cf f1) (f1.p.k5 (τ := τ) (hF.k5 h50)) (f1.p.k (hF.k hk0)) k1 (c7.cf f1) a1 hm (fun _ => Sd.top (Or.inr (by omega))) (fun z => absurd z (by decide)) a2 (fun S9 g9 f9 => ?_) (fun S9 g9 f9 => ?_))
  · obtain ⟨nots9, W9, C9, at9, te9, s9, e9, t9, Cc9, k9, c9, p9, v9, w9, q9, u9, n9, l9, r9⟩ := g9
    have hro := room (W0 := sgF t' :: W) (C0 := Cc9) p9 (GP_len v9 w9 (by decide))
    simp only [List.length_cons] at hro
    have hL9 : HL τ S9 := c9.hl (by omega)
    refine E_istore_n dX7_takeTest_54 (by decide) ?_
    refine E_aload_n dX7_takeTest_55 rfl ?_
    refine L_get fX7_19 dX7_takeTest_56 (by decide) sh_3 rfl ?_
    rw [tk_ref (f9.k5 (f1.p.k5 (τ := τ) (hF.k5 h50))) ht]
    refine E_iload dX7_takeTest_59 rfl ?_
    refine E_V1v vX7_78_8 dX7_takeTest_61 (Nat.le_of_ble_eq_true rfl) (by have := ((isT_mk (t := τ) ht)).lt; omega) ((sh_T (isT_mk (t := τ) ht)) _) (s_X8_addSign ht hL9 (c := sgF t') (sg_tr2 a6) (fun S8 h8 c8 f8 => ?_))
    refine E_iload_n dX7_takeTest_64 rfl ?_
    refine E_iret dX7_takeTest_65 rfl rfl ?_
    have e9p : te9 par = true := by rw [u9 (by decide), teU, if_pos rfl]; rfl
    refine hq1 S8 ⟨nots9, W9, C9, at9, te9, s9, e9, t9, sgF t' :: Cc9, k9.af f8, c8 Cc9 at9 c9 (by omega), p9, fun _ => GP_next (by decide) hsd a7 a5 v9 w9, fun z => absurd z (by decide), fun q hq => ?_, fun z => absurd z (by decide), NC_3 n9 (Or.inl e9p), by omega, r9⟩ ((hF.tr f1.p).tr (f9.tr f8.p))
    rw [q9 q hq, teU, if_neg (by omega)]; exact q7 q hq
  · have hL9 : HL τ S9 := g9.1
    refine E_istore_n dX7_takeTest_54 (by decide) ?_
    refine E_aload_n dX7_takeTest_55 rfl ?_
    refine L_get fX7_19 dX7_takeTest_56 (by decide) sh_3 rfl ?_
    rw [tk_ref (f9.k5 (f1.p.k5 (τ := τ) (hF.k5 h50))) ht]
    refine E_iload dX7_takeTest_59 rfl ?_
    refine E_V1v vX7_78_8 dX7_takeTest_61 (Nat.le_of_ble_eq_true rfl) (by have := ((isT_mk (t := τ) ht)).lt; omega) ((sh_T (isT_mk (t := τ) ht)) _) (s_X8_addSign ht hL9 (c := sgF t') (sg_tr2 a6) (fun S8 h8 c8 f8 => ?_))
    refine E_iload_n dX7_takeTest_64 rfl ?_
    refine E_iret dX7_takeTest_65 rfl rfl ?_
    obtain ⟨-, s9, e9, r9⟩ := g9
    exact hq0 S8 ⟨h8, s9, by rw [f8.2 3 (by omega) (by omega)]; exact e9, r9⟩ ((hF.tr f1.p).tr (f9.tr f8.p))
theorem v_X7_takeTest (ht : τ < 15) (hb : byOk b n) {m X : Nat} (hS : LvP Θ b n τ key 4 m G1 (cSum Θ (X + 7))) : LvP Θ b n τ key 3 m G1 (cTest Θ (X + 8)) := by
  intro S par nots W Cd at_ te s e t R0 Q hG hT h5 hkey hk hC hp hm hsd hte hR hq1 hq0
  have hn := hp.2.1
  refine C_of rfl rfl (Nat.le_of_ble_eq_true rfl) ?_
  refine E_aload_n dX7_takeTest_0 rfl ?_
  refine E_iload_n dX7_takeTest_1 rfl ?_
  refine E_iload_n dX7_takeTest_2 rfl ?_
  refine E_V2i vX7_84_7 dX7_takeTest_3 (Nat.le_of_ble_eq_true rfl) (by decide) (sh_3 _) (hS S par nots W Cd at_ te s e t R0 _ trivial hT h5 hkey hk hC hp hm (fun _ => (hsd (by decide)).up (by decide)) (fun z => hte (by omega)) hR (fun S9 g9 f9 => ?_) (fun S9 g9 f9 => ?_))
  · obtain ⟨nots9, W9, C9, at9, te9, s9, e9, t9, Cc9, k9, c9, p9, v9, w9, q9, u9, n9, l9, r9⟩ := g9
    have u0 : te9 par = false := (u9 (by decide)).trans (hte (by decide))
    have v0 := GP_low (by decide) (hsd (by decide)) v9 w9
    have K := fun z => p_X7_takeTest (S0 := S) (lo := s) (te := te) ht hb hn hS hm (hsd (by decide)) hp.2.2.2.2.2.2.1 h5 hkey hq1 hq0 S9 nots9 W9 C9 at9 te9 s9 e9 t9 Cc9 (hT.pf f9) k9 c9 p9 v0 q9 u0 l9 r9 f9 z
    refine E_istore_n dX7_takeTest_6 (by decide) ?_
    refine E_iload_n dX7_takeTest_7 rfl ?_
    refine E_if_eq dX7_takeTest_8 (fun c => absurd c (by decide)) (fun _ => ?_)
    refine E_aload_n dX7_takeTest_11 rfl ?_
    refine L_get fX7_23 dX7_takeTest_12 (by decide) sh_3 rfl ?_
    rw [k9.2.2]
    refine E_bipush (v := 60) dX7_takeTest_15 (by decide) ?_
    refine E_icmp_eq dX7_takeTest_17 (fun c17 => ?_) (fun c17 => ?_)
    · exact E.loc (by exact ⟨rfl, rfl, rfl, rfl, trivial⟩) (K (Or.inr (Or.inr (Or.inl ⟨rfl, Or.inl c17⟩))))
    · refine E_aload_n dX7_takeTest_20 rfl ?_
      refine L_get fX7_23 dX7_takeTest_21 (by decide) sh_3 rfl ?_
      rw [k9.2.2]
      refine E_bipush (v := 61) dX7_takeTest_24 (by decide) ?_
      refine E_icmp_eq dX7_takeTest_26 (fun c26 => ?_) (fun c26 => ?_)
      · exact E.loc (by exact ⟨rfl, rfl, rfl, rfl, trivial⟩) (K (Or.inr (Or.inr (Or.inl ⟨rfl, Or.inr (Or.inl c26)⟩))))
      · refine E_aload_n dX7_takeTest_29 rfl ?_
        refine L_get fX7_23 dX7_takeTest_30 (by decide) sh_3 rfl ?_
        rw [k9.2.2]
        refine E_bipush (v := 62) dX7_takeTest_33 (by decide) ?_
        refine E_icmp_ne dX7_takeTest_35 (fun c35 => ?_) (fun c35 => ?_)
        · refine E_iload_n dX7_takeTest_64 rfl ?_
          refine E_iret dX7_takeTest_65 rfl rfl ?_
          exact hq1 S9 ⟨nots9, W9, C9, at9, te9, s9, e9, t9, Cc9, k9, c9, p9, fun _ => v0, fun z => absurd z (by decide), q9, fun z => absurd z (by decide), NC_3 n9 (Or.inr (fun z => by rcases z with ⟨a, y⟩ | ⟨a, y⟩ | ⟨a, y⟩ | ⟨a, y⟩ | ⟨a, y⟩ <;> first | exact absurd a (by decide) | exact y.elim c17 (fun x => x.elim c26 c35))), l9, r9⟩ f9
        · exact E.loc (by exact ⟨rfl, rfl, rfl, rfl, trivial⟩) (K (Or.inr (Or.inr (Or.inl ⟨rfl, Or.inr (Or.inr c35)⟩))))
  · refine E_istore_n dX7_takeTest_6 (by decide) ?_
    refine E_iload_n dX7_takeTest_7 rfl ?_
    refine E_if_eq dX7_takeTest_8 (fun _ => ?_) (fun c => absurd (by decide) c)
    refine E_iload_n dX7_takeTest_64 rfl ?_
    refine E_iret dX7_takeTest_65 rfl rfl ?_
    exact hq0 S9 g9 f9
theorem v_all (ht : τ < 15) (hb : byOk b n) {m X : Nat} (h : LvP Θ b n τ key 6 m G1 (cPiece Θ (X + 5))) : LvP Θ b n τ key 1 m G1 (cOr Θ (X + 10)) := v_X7_takeOr ht hb (v_X7_takeAnd ht hb (v_X7_takeTest ht hb (v_X7_takeSum ht hb (v_X7_takeTerm ht hb h))))
theorem v_pieces (hX : HasS Θ adK adV fv) (ht : τ < 15) (hb : byOk b n) (h3 : key < 3) : ∀ m D : Nat, LvP Θ b n τ key 6 m G1 (cPiece Θ (7 * m + D + 5)) := by
  intro m
  induction m with
  | zero =>
    intro D
    rw [show 7 * 0 + D + 5 = D + 5 by omega]
    refine v_X7_takePiece hX ht hb h3 ?_ ?_
    · intro S par nots W Cd at_ te s e t R0 Q hG hT h5 hkey hk hC hp hm
      have := hG.1
      omega
    · intro S par nots W Cd at_ te s e t R0 Q hG hT h5 hkey hk hC hp hm
      have := hG.1
      omega
  | succ m ih =>
    intro D
    have hP := ih (D + 5)
    rw [show 7 * m + (D + 5) + 5 = 7 * m + D + 10 by omega] at hP
    have hO := v_all ht hb (ih D)
    rw [show 7 * (m + 1) + D + 5 = 7 * m + D + 7 + 5 by omega]
    exact v_X7_takePiece hX ht hb h3 (v_X7_takeNot ht hb hP) (v_X7_takeBracket hb hO)
theorem v_or (hX : HasS Θ adK adV fv) (ht : τ < 15) (hb : byOk b n) (h3 : key < 3) (D : Nat) : LvP Θ b n τ key 1 16 G1 (cOr Θ (D + 122)) := by
  have := v_all ht hb (v_pieces hX ht hb h3 16 D)
  rw [show 7 * 16 + D + 10 = D + 122 by omega] at this
  exact this
end Te
