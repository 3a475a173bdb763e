/-! the class's levels -/
theorem sg_tr2 {t : Int32} (h : ¬ sgF t = 0) : 10000 + t = trC (sgF t) := by
  rcases sg_one h with rfl | rfl | rfl | rfl | rfl | rfl | rfl | rfl | rfl <;> decide +kernel
theorem GP_low {r : Nat} {W W' C' Cc : List Int32} (hr : r ≤ 5) (hsd : Sd r W) (h1 : r + 1 ≤ 5 → stl (r + 1) W' C' = (W, Cc)) (h2 : r + 1 = 6 → stl 6 W Cc = (W', C')) : stl r W' C' = (W, Cc) := by
  by_cases c : r + 1 ≤ 5
  · rw [stl_sd (Nat.le_succ r) W' C' W Cc (h1 c)]
    exact hsd Cc
  · have z := h2 (by omega)
    rw [hsd.up (show r ≤ 6 by omega) Cc] at z
    cases z
    exact hsd _
theorem GP_next {r : Nat} {op : Int32} {W W' C' Cc : List Int32} (hr : r ≤ 5) (hsd : Sd r W) (h11 : ¬ op = -11) (hk : rkF op = r) (h1 : r + 1 ≤ 5 → stl (r + 1) W' C' = (op :: W, Cc)) (h2 : r + 1 = 6 → stl 6 (op :: W) Cc = (W', C')) : stl r W' C' = (W, op :: Cc) := by
  have key : stl r (op :: W) Cc = (W, op :: Cc) := by
    rw [stl_top h11 (by omega)]
    exact hsd _
  by_cases c : r + 1 ≤ 5
  · rw [stl_sd (Nat.le_succ r) W' C' (op :: W) Cc (h1 c)]
    exact key
  · have z := h2 (by omega)
    rw [Sd.top (Or.inr (by omega)) Cc] at z
    cases z
    exact key
theorem GP_len {r : Nat} {W W' C' Cc : List Int32} (h1 : r ≤ 5 → stl r W' C' = (W, Cc)) (h2 : r = 6 → stl 6 W Cc = (W', C')) (hr : r ≤ 6) : W.length + Cc.length = W'.length + C'.length := by
  by_cases c : r ≤ 5
  · have := stl_len (r := r) W' C'
    rw [h1 c] at this
    exact this
  · have := stl_len (r := 6) W Cc
    rw [h2 (by omega)] at this
    exact this.symm
section Le
variable {Θ : Th} {b : Nat → Int32} {n τ key : Nat}
/-- one operator: what the level behind it asks for -/
theorem op_step {r par nots nots' at' s' e' lo : Nat} {W W' C' Cc : List Int32} {te te' : Nat → Bool} {t' : Int32} {R0 : OU → Prop} (hb : byOk b n) (hr : r ≤ 5) (hs : sgL r t') (h3 : r = 3 → te' par = false) (enW : nots = nnF W) (p7 : PIn b n key (false, par, nots', W', C', at', te', s', e', t')) (v7 : stl r W' C' = (W, Cc)) (r7 : ∀ o, Rx b n key (false, par, nots', W', C', at', te', s', e', t') o → R0 o) : PIn b n key (true, par, nots, sgF t' :: W, Cc, at', teU te' par (r == 3 || (decide (3 < r) && te' par)), nxS b n e', nxE b n e', nxK b n e' t') ∧ (∀ o, Rx b n key (true, par, nots, sgF t' :: W, Cc, at', teU te' par (r == 3 || (decide (3 < r) && te' par)), nxS b n e', nxE b n e', nxK b n e' t') o → R0 o) ∧ e' ≤ n ∧ s' < e' ∧ rkF (sgF t') = r ∧ ¬ sgF t' = 0 ∧ ¬ sgF t' = -11 := by
  obtain ⟨hg, hk⟩ := sgL_ok hs
  have t8 : ¬ t' = 258 := fun z => hg (by rw [z]; exact sg_258)
  have hpo := PIn_op (te' := teU te' par (r == 3 || (decide (3 < r) && te' par))) hb p7 t8 hg
  have hro : ∀ o, Rx b n key (true, par, nots', sgF t' :: (stl (rkF (sgF t')) W' C').1, (stl (rkF (sgF t')) W' C').2, at', teU te' par (rkF (sgF t') == 3 || (decide (3 < rkF (sgF t')) && te' par)), nxS b n e', nxE b n e', nxK b n e' t') o → R0 o := fun o ho => r7 o (Rx_op hg (fun z => by rw [h3 (hk.symm.trans z.1)] at z; exact absurd z.2 (by decide)) ho)
  rw [hk, v7] at hpo hro
  have en : nots' = nots := by
    have z := hpo.2.2.2.2.2.2.1
    rw [nnF, if_neg (sg_b hg).1, Nat.add_zero] at z
    exact z.trans enW.symm
  rw [en] at hpo hro
  exact ⟨hpo, hro, p7.1.2.1, p7.1.2.2.2.1 t8, hk, hg, (sg_b hg).2⟩
theorem z_X7_takeTerm {X : Nat} {S : SS} {Q : Int32 → HP → Prop} {x4 : Int32} {par nots : Nat} (hT : CT S b n) (hq : Q 0 (lay Θ S)) : E Θ (X + 6) 0 0 yX7_takeTerm cX7_takeTerm 6 (some .boolean) 0 0 183 (lay Θ S) 10 [(4, .int x4), (3, .int 0), (2, .int (nI nots)), (1, .int (nI par)), (0, .ref (tb Θ + 3))] [] (Qi Q) := by
  refine E_iload dX7_takeTerm_10 rfl ?_
  refine E_aload_n dX7_takeTerm_12 rfl ?_
  refine L_get fX7_15 dX7_takeTerm_13 (by decide) sh_3 rfl ?_
  rw [hT.1]
  refine E_icmp_ge dX7_takeTerm_16 (fun c16 => ?_) (fun c16 => ?_)
  · refine E_iload_n dX7_takeTerm_73 rfl ?_
    refine E_iret dX7_takeTerm_74 rfl rfl ?_
    exact hq
  · refine E_iload_n dX7_takeTerm_19 rfl ?_
    refine E_if_eq dX7_takeTerm_20 (fun _ => ?_) (fun c => absurd (by decide) c)
    refine E_iload_n dX7_takeTerm_73 rfl ?_
    refine E_iret dX7_takeTerm_74 rfl rfl ?_
    exact hq
theorem p_X7_takeTerm {X : Nat} (ht : τ < 15) (hb : byOk b n) (hn : n ≤ 96) {m par nots lo : Nat} {W : List Int32} {te : Nat → Bool} {R0 : OU → Prop} {Q : Int32 → HP → Prop} {S0 : SS} (hS : LvP Θ b n τ key 6 m G1 (cPiece Θ (X + 5))) (hm : (8 - par) + (8 - nots) = m) (hsd : Sd 5 W) (enW : nots = nnF W) (h50 : S0 3 5 = nI τ) (hk0 : S0 (86 + 3 * τ) 1 = nI key) (hq1 : ∀ S', GP b n key τ 5 5 par lo W te R0 S' → PCF τ S0 S' → Q 1 (lay Θ S')) (hq0 : ∀ S', FltP τ R0 S' → PCF τ S0 S' → Q 0 (lay Θ S'))  : ∀ (f : Nat), (∀ (S : SS) (x4 : Int32) (i nots' : Nat) (W' C' : List Int32) (at' : Nat) (te' : Nat → Bool) (s' e' : Nat) (t' : Int32) (Cc : List Int32), CT S b n → MKc S s' e' t' → CPS S τ Cc at' → PIn b n key (false, par, nots', W', C', at', te', s', e', t') → stl 5 W' C' = (W, Cc) → (∀ q, q < par → te' q = te q) → (4 ≤ 5 → te' par = te par) → NC 6 t' (te' par) → lo < s' → (∀ o, Rx b n key (false, par, nots', W', C', at', te', s', e', t') o → R0 o) → PCF τ S0 S → x4 = nI i → i < s' → n < s' + f  → E Θ (X + 6) 0 0 yX7_takeTerm cX7_takeTerm 6 (some .boolean) 0 0 183 (lay Θ S) 10 [(4, .int x4), (3, .int 1), (2, .int (nI nots)), (1, .int (nI par)), (0, .ref (tb Θ + 3))] [] (Qi Q)) → ∀ (S : SS) (x4 : Int32) (i nots' : Nat) (W' C' : List Int32) (at' : Nat) (te' : Nat → Bool) (s' e' : Nat) (t' : Int32) (Cc : List Int32), CT S b n → MKc S s' e' t' → CPS S τ Cc at' → PIn b n key (false, par, nots', W', C', at', te', s', e', t') → stl 5 W' C' = (W, Cc) → (∀ q, q < par → te' q = te q) → (4 ≤ 5 → te' par = te par) →  lo < s' → (∀ o, Rx b n key (false, par, nots', W', C', at', te', s', e', t') o → R0 o) → PCF τ S0 S → x4 = nI i → i < s' → n < s' + f + 1 → sgL 5 t' → E Θ (X + 6) 0 0 yX7_takeTerm cX7_takeTerm 6 (some .boolean) 0 0 183 (lay Θ S) 41 [(4, .int x4), (3, .int 1), (2, .int (nI nots)), (1, .int (nI par)), (0, .ref (tb Θ + 3))] [] (Qi Q) := by
  intro f ih S x4 i nots' W' C' at' te' s' e' t' Cc hT k7 c7 p7 v7 q7 u7 l7 r7 hF hx4 hi hf sl
  obtain ⟨a1, a2, a3, a4, a5, a6, a7⟩ := op_step (lo := lo) (te := te) hb (by decide) sl (fun z => absurd z (by decide)) enW p7 v7 r7
  have hs2 := nxS_le (b := b) a3
  refine E_aload_n dX7_takeTerm_41 rfl ?_
  refine L_get fX7_23 dX7_takeTerm_42 (by decide) sh_3 rfl ?_
  rw [k7.2.2]
  refine E_istore dX7_takeTerm_45 (by decide) ?_
  refine E_aload_n dX7_takeTerm_47 rfl ?_
  refine E_V0v vX7_29_7 dX7_takeTerm_48 (Nat.le_of_ble_eq_true rfl) (by decide) (sh_3 _) (s_X7_goOn hT hn k7 a3 (fun S1 k1 f1 => ?_))
  refine E_aload_n dX7_takeTerm_51 rfl ?_
  refine E_iload_n dX7_takeTerm_52 rfl ?_
  refine E_iload_n dX7_takeTerm_53 rfl ?_
  refine E_V2i vX7_90_7 dX7_takeTerm_54 (Nat.le_of_ble_eq_true rfl) (by decide) (sh_3 _) (hS S1 par nots (sgF t' :: W) Cc at' _ _ _ _ R0 _ trivial (hT.cf f1) (f1.p.k5 (τ := τ) (hF.k5 h50)) (f1.p.k (hF.k hk0)) k1 (c7.cf f1) a1 hm (fun _ => Sd.top (Or.inr (by omega))) (fun z => absurd z (by decide)) a2 (fun S9 g9 f9 => ?_) (fun S9 g9 f9 => ?_))
  · obtain ⟨nots9, W9, C9, at9, te9, s9, e9, t9, Cc9, k9, c9, p9, v9, w9, q9, u9, n9, l9, r9⟩ := g9
    have hro := room (W0 := sgF t' :: W) (C0 := Cc9) p9 (GP_len v9 w9 (by decide))
    simp only [List.length_cons] at hro
    have hL9 : HL τ S9 := c9.hl (by omega)
    refine E_istore_n dX7_takeTerm_57 (by decide) ?_
    refine E_aload_n dX7_takeTerm_58 rfl ?_
    refine L_get fX7_19 dX7_takeTerm_59 (by decide) sh_3 rfl ?_
    rw [tk_ref (f9.k5 (f1.p.k5 (τ := τ) (hF.k5 h50))) ht]
    refine E_iload dX7_takeTerm_62 rfl ?_
    refine E_V1v vX7_78_8 dX7_takeTerm_64 (Nat.le_of_ble_eq_true rfl) (by have := ((isT_mk (t := τ) ht)).lt; omega) ((sh_T (isT_mk (t := τ) ht)) _) (s_X8_addSign ht hL9 (c := sgF t') (sg_tr2 a6) (fun S8 h8 c8 f8 => ?_))
    refine E_iinc (v := 1) dX7_takeTerm_67 rfl (by decide) (by decide) ?_
    refine E_goto dX7_takeTerm_70 ?_
    have f99 := (hF.tr f1.p).tr (f9.tr f8.p)
    have hs9 := p9.1.1
    refine E.loc (by exact ⟨rfl, rfl, rfl, rfl, rfl, trivial⟩) (ih S8 _ (i + 1) nots9 W9 C9 at9 te9 s9 e9 t9 (sgF t' :: Cc9) (((hT.cf f1).pf f9).pf f8.p) (k9.af f8) (c8 Cc9 at9 c9 (by omega)) p9 (GP_next (by decide) hsd a7 a5 v9 w9) (fun q hq => ?_) (fun z => ?_) n9 (by omega) r9 f99 (by rw [hx4, nI_1]) (by omega) (by omega))
    · rw [q9 q hq, teU, if_neg (by omega)]; exact q7 q hq
    · rw [u9 (by decide), teU, if_pos rfl, ← u7 z]; rfl
  · have hL9 : HL τ S9 := g9.1
    refine E_istore_n dX7_takeTerm_57 (by decide) ?_
    refine E_aload_n dX7_takeTerm_58 rfl ?_
    refine L_get fX7_19 dX7_takeTerm_59 (by decide) sh_3 rfl ?_
    rw [tk_ref (f9.k5 (f1.p.k5 (τ := τ) (hF.k5 h50))) ht]
    refine E_iload dX7_takeTerm_62 rfl ?_
    refine E_V1v vX7_78_8 dX7_takeTerm_64 (Nat.le_of_ble_eq_true rfl) (by have := ((isT_mk (t := τ) ht)).lt; omega) ((sh_T (isT_mk (t := τ) ht)) _) (s_X8_addSign ht hL9 (c := sgF t') (sg_tr2 a6) (fun S8 h8 c8 f8 => ?_))
    refine E_iinc (v := 1) dX7_takeTerm_67 rfl (by decide) (by decide) ?_
    refine E_goto dX7_takeTerm_70 ?_
    obtain ⟨-, s9, e9, r9⟩ := g9
    exact E.loc (by exact ⟨rfl, rfl, rfl, rfl, rfl, trivial⟩) (z_X7_takeTerm (((hT.cf f1).pf f9).pf f8.p) (hq0 S8 ⟨h8, s9, by rw [f8.2 3 (by omega) (by omega)]; exact e9, r9⟩ ((hF.tr f1.p).tr (f9.tr f8.p))))
theorem l_X7_takeTerm {X : Nat} (ht : τ < 15) (hb : byOk b n) (hn : n ≤ 96) {m par nots lo : Nat} {W : List Int32} {te : Nat → Bool} {R0 : OU → Prop} {Q : Int32 → HP → Prop} {S0 : SS} (hS : LvP Θ b n τ key 6 m G1 (cPiece Θ (X + 5))) (hm : (8 - par) + (8 - nots) = m) (hsd : Sd 5 W) (enW : nots = nnF W) (h50 : S0 3 5 = nI τ) (hk0 : S0 (86 + 3 * τ) 1 = nI key) (hq1 : ∀ S', GP b n key τ 5 5 par lo W te R0 S' → PCF τ S0 S' → Q 1 (lay Θ S')) (hq0 : ∀ S', FltP τ R0 S' → PCF τ S0 S' → Q 0 (lay Θ S'))  : ∀ (f : Nat), ∀ (S : SS) (x4 : Int32) (i nots' : Nat) (W' C' : List Int32) (at' : Nat) (te' : Nat → Bool) (s' e' : Nat) (t' : Int32) (Cc : List Int32), CT S b n → MKc S s' e' t' → CPS S τ Cc at' → PIn b n key (false, par, nots', W', C', at', te', s', e', t') → stl 5 W' C' = (W, Cc) → (∀ q, q < par → te' q = te q) → (4 ≤ 5 → te' par = te par) → NC 6 t' (te' par) → lo < s' → (∀ o, Rx b n key (false, par, nots', W', C', at', te', s', e', t') o → R0 o) → PCF τ S0 S → x4 = nI i → i < s' → n < s' + f  → E Θ (X + 6) 0 0 yX7_takeTerm cX7_takeTerm 6 (some .boolean) 0 0 183 (lay Θ S) 10 [(4, .int x4), (3, .int 1), (2, .int (nI nots)), (1, .int (nI par)), (0, .ref (tb Θ + 3))] [] (Qi Q) := by
  intro f
  induction f with
  | zero =>
    intro S x4 i nots' W' C' at' te' s' e' t' Cc hT k7 c7 p7 v7 q7 u7 n7 l7 r7 hF hx4 hi hf
    have y1 := p7.1.1
    have y2 := p7.1.2.1
    omega
  | succ f ih =>
    intro S x4 i nots' W' C' at' te' s' e' t' Cc hT k7 c7 p7 v7 q7 u7 n7 l7 r7 hF hx4 hi hf
    have hop := p_X7_takeTerm ht hb hn hS hm hsd enW h50 hk0 hq1 hq0 f ih
    have y1 := p7.1.1
    have y2 := p7.1.2.1
    refine E_iload dX7_takeTerm_10 rfl ?_
    refine E_aload_n dX7_takeTerm_12 rfl ?_
    refine L_get fX7_15 dX7_takeTerm_13 (by decide) sh_3 rfl ?_
    rw [hT.1]
    refine E_icmp_ge dX7_takeTerm_16 (fun c => absurd c (fun z => absurd ((nI_leI (by omega) (by omega)).mp (hx4 ▸ z)) (by omega))) (fun _ => ?_)
    refine E_iload_n dX7_takeTerm_19 rfl ?_
    refine E_if_eq dX7_takeTerm_20 (fun c => absurd c (by decide)) (fun _ => ?_)
    refine E_aload_n dX7_takeTerm_23 rfl ?_
    refine L_get fX7_23 dX7_takeTerm_24 (by decide) sh_3 rfl ?_
    rw [k7.2.2]
    refine E_bipush (v := 42) dX7_takeTerm_27 (by decide) ?_
    refine E_icmp_eq dX7_takeTerm_29 (fun c29 => ?_) (fun c29 => ?_)
    · refine E.loc (by exact ⟨rfl, rfl, rfl, rfl, rfl, trivial⟩) (hop S x4 i nots' W' C' at' te' s' e' t' Cc hT k7 c7 p7 v7 q7 u7 l7 r7 hF hx4 hi hf (Or.inr (Or.inr (Or.inr (Or.inr ⟨rfl, Or.inl c29⟩)))))
    · refine E_aload_n dX7_takeTerm_32 rfl ?_
      refine L_get fX7_23 dX7_takeTerm_33 (by decide) sh_3 rfl ?_
      rw [k7.2.2]
      refine E_bipush (v := 47) dX7_takeTerm_36 (by decide) ?_
      refine E_icmp_ne dX7_takeTerm_38 (fun c38 => ?_) (fun c38 => ?_)
      · refine E_iload_n dX7_takeTerm_73 rfl ?_
        refine E_iret dX7_takeTerm_74 rfl rfl ?_
        exact hq1 S ⟨nots', W', C', at', te', s', e', t', Cc, k7, c7, p7, fun _ => v7, fun z => absurd z (by decide), q7, u7, NC_down n7 (fun z => by rcases z with ⟨a, y⟩ | ⟨a, y⟩ | ⟨a, y⟩ | ⟨a, y⟩ | ⟨a, y⟩ <;> first | exact absurd a (by decide) | exact y.elim c29 c38), l7, r7⟩ hF
      · refine E.loc (by exact ⟨rfl, rfl, rfl, rfl, rfl, trivial⟩) (hop S x4 i nots' W' C' at' te' s' e' t' Cc hT k7 c7 p7 v7 q7 u7 l7 r7 hF hx4 hi hf (Or.inr (Or.inr (Or.inr (Or.inr ⟨rfl, Or.inr c38⟩)))))
theorem v_X7_takeTerm (ht : τ < 15) (hb : byOk b n) {m X : Nat} (hS : LvP Θ b n τ key 6 m G1 (cPiece Θ (X + 5))) : LvP Θ b n τ key 5 m G1 (cTerm Θ (X + 6)) := by
  intro S par nots W Cd at_ te s e t R0 Q hG hT h5 hkey hk hC hp hm hsd hte hR hq1 hq0
  have hn := hp.2.1
  refine C_of rfl rfl (Nat.le_of_ble_eq_true rfl) ?_
  refine E_aload_n dX7_takeTerm_0 rfl ?_
  refine E_iload_n dX7_takeTerm_1 rfl ?_
  refine E_iload_n dX7_takeTerm_2 rfl ?_
  refine E_V2i vX7_90_7 dX7_takeTerm_3 (Nat.le_of_ble_eq_true rfl) (by decide) (sh_3 _) (hS S par nots W Cd at_ te s e t R0 _ trivial hT h5 hkey hk hC hp hm (fun _ => (hsd (by decide)).up (by decide)) (fun z => hte (by omega)) hR (fun S9 g9 f9 => ?_) (fun S9 g9 f9 => ?_))
  · refine E_istore_n dX7_takeTerm_6 (by decide) ?_
    refine E_ic (v := 0) dX7_takeTerm_7 (by decide) ?_
    refine E_istore dX7_takeTerm_8 (by decide) ?_
    obtain ⟨nots9, W9, C9, at9, te9, s9, e9, t9, Cc9, k9, c9, p9, v9, w9, q9, u9, n9, l9, r9⟩ := g9
    exact E.loc (by exact ⟨rfl, rfl, rfl, rfl, rfl, trivial⟩) (l_X7_takeTerm (S0 := S) (lo := s) (te := te) ht hb hn hS hm (hsd (by decide)) hp.2.2.2.2.2.2.1 h5 hkey hq1 hq0 (n + 1) S9 0 0 nots9 W9 C9 at9 te9 s9 e9 t9 Cc9 (hT.pf f9) k9 c9 p9 (GP_low (by decide) (hsd (by decide)) v9 w9) q9 (fun z => u9 (by omega)) n9 l9 r9 f9 rfl (by omega) (by omega))
  · refine E_istore_n dX7_takeTerm_6 (by decide) ?_
    refine E_ic (v := 0) dX7_takeTerm_7 (by decide) ?_
    refine E_istore dX7_takeTerm_8 (by decide) ?_
    exact E.loc (by exact ⟨rfl, rfl, rfl, rfl, rfl, trivial⟩) (z_X7_takeTerm (hT.pf f9) (hq0 S9 g9 f9))
theorem z_X7_takeSum {X : Nat} {S : SS} {Q : Int32 → HP → Prop} {x4 : Int32} {par nots : Nat} (hT : CT S b n) (hq : Q 0 (lay Θ S)) : E Θ (X + 7) 0 0 yX7_takeSum cX7_takeSum 6 (some .boolean) 0 0 183 (lay Θ S) 10 [(4, .int x4), (3, .int 0), (2, .int (nI nots)), (1, .int (nI par)), (0, .ref (tb Θ + 3))] [] (Qi Q) := by
  refine E_iload dX7_takeSum_10 rfl ?_
  refine E_aload_n dX7_takeSum_12 rfl ?_
  refine L_get fX7_15 dX7_takeSum_13 (by decide) sh_3 rfl ?_
  rw [hT.1]
  refine E_icmp_ge dX7_takeSum_16 (fun c16 => ?_) (fun c16 => ?_)
  · refine E_iload_n dX7_takeSum_73 rfl ?_
    refine E_iret dX7_takeSum_74 rfl rfl ?_
    exact hq
  · refine E_iload_n dX7_takeSum_19 rfl ?_
    refine E_if_eq dX7_takeSum_20 (fun _ => ?_) (fun c => absurd (by decide) c)
    refine E_iload_n dX7_takeSum_73 rfl ?_
    refine E_iret dX7_takeSum_74 rfl rfl ?_
    exact hq
theorem p_X7_takeSum {X : Nat} (ht : τ < 15) (hb : byOk b n) (hn : n ≤ 96) {m par nots lo : Nat} {W : List Int32} {te : Nat → Bool} {R0 : OU → Prop} {Q : Int32 → HP → Prop} {S0 : SS} (hS : LvP Θ b n τ key 5 m G1 (cTerm Θ (X + 6))) (hm : (8 - par) + (8 - nots) = m) (hsd : Sd 4 W) (enW : nots = nnF W) (h50 : S0 3 5 = nI τ) (hk0 : S0 (86 + 3 * τ) 1 = nI key) (hq1 : ∀ S', GP b n key τ 4 4 par lo W te R0 S' → PCF τ S0 S' → Q 1 (lay Θ S')) (hq0 : ∀ S', FltP τ R0 S' → PCF τ S0 S' → Q 0 (lay Θ S'))  : ∀ (f : Nat), (∀ (S : SS) (x4 : Int32) (i nots' : Nat) (W' C' : List Int32) (at' : Nat) (te' : Nat → Bool) (s' e' : Nat) (t' : Int32) (Cc : List Int32), CT S b n → MKc S s' e' t' → CPS S τ Cc at' → PIn b n key (false, par, nots', W', C', at', te', s', e', t') → stl 4 W' C' = (W, Cc) → (∀ q, q < par → te' q = te q) → (4 ≤ 4 → te' par = te par) → NC 5 t' (te' par) → lo < s' → (∀ o, Rx b n key (false, par, nots', W', C', at', te', s', e', t') o → R0 o) → PCF τ S0 S → x4 = nI i → i < s' → n < s' + f  → E Θ (X + 7) 0 0 yX7_takeSum cX7_takeSum 6 (some .boolean) 0 0 183 (lay Θ S) 10 [(4, .int x4), (3, .int 1), (2, .int (nI nots)), (1, .int (nI par)), (0, .ref (tb Θ + 3))] [] (Qi Q)) → ∀ (S : SS) (x4 : Int32) (i nots' : Nat) (W' C' : List Int32) (at' : Nat) (te' : Nat → Bool) (s' e' : Nat) (t' : Int32) (Cc : List Int32), CT S b n → MKc S s' e' t' → CPS S τ Cc at' → PIn b n key (false, par, nots', W', C', at', te', s', e', t') → stl 4 W' C' = (W, Cc) → (∀ q, q < par → te' q = te q) → (4 ≤ 4 → te' par = te par) →  lo < s' → (∀ o, Rx b n key (false, par, nots', W', C', at', te', s', e', t') o → R0 o) → PCF τ S0 S → x4 = nI i → i < s' → n < s' + f + 1 → sgL 4 t' → E Θ (X + 7) 0 0 yX7_takeSum cX7_takeSum 6 (some .boolean) 0 0 183 (lay Θ S) 41 [(4, .int x4), (3, .int 1), (2, .int (nI nots)), (1, .int (nI par)), (0, .ref (tb Θ + 3))] [] (Qi Q) := by
  intro f ih S x4 i nots' W' C' at' te' s' e' t' Cc hT k7 c7 p7 v7 q7 u7 l7 r7 hF hx4 hi hf sl
  obtain ⟨a1, a2, a3, a4, a5, a6, a7⟩ := op_step (lo := lo) (te := te) hb (by decide) sl (fun z => absurd z (by decide)) enW p7 v7 r7
  have hs2 := nxS_le (b := b) a3
  refine E_aload_n dX7_takeSum_41 rfl ?_
  refine L_get fX7_23 dX7_takeSum_42 (by decide) sh_3 rfl ?_
  rw [k7.2.2]
  refine E_istore dX7_takeSum_45 (by decide) ?_
  refine E_aload_n dX7_takeSum_47 rfl ?_
  refine E_V0v vX7_29_7 dX7_takeSum_48 (Nat.le_of_ble_eq_true rfl) (by decide) (sh_3 _) (s_X7_goOn hT hn k7 a3 (fun S1 k1 f1 => ?_))
  refine E_aload_n dX7_takeSum_51 rfl ?_
  refine E_iload_n dX7_takeSum_52 rfl ?_
  refine E_iload_n dX7_takeSum_53 rfl ?_
  refine E_V2i vX7_87_7 dX7_takeSum_54 (Nat.le_of_ble_eq_true rfl) (by decide) (sh_3 _) (hS S1 par nots (sgF t' :: W) Cc at' _ _ _ _ R0 _ trivial (hT.cf f1) (f1.p.k5 (τ := τ) (hF.k5 h50)) (f1.p.k (hF.k hk0)) k1 (c7.cf f1) a1 hm (fun _ => Sd.top (Or.inr (by omega))) (fun z => absurd z (by decide)) a2 (fun S9 g9 f9 => ?_) (fun S9 g9 f9 => ?_))
  · obtain ⟨nots9, W9, C9, at9, te9, s9, e9, t9, Cc9, k9, c9, p9, v9, w9, q9, u9, n9, l9, r9⟩ := g9
    have hro := room (W0 := sgF t' :: W) (C0 := Cc9) p9 (GP_len v9 w9 (by decide))
    simp only [List.length_cons] at hro
    have hL9 : HL τ S9 := c9.hl (by omega)
    refine E_istore_n dX7_takeSum_57 (by decide) ?_
    refine E_aload_n dX7_takeSum_58 rfl ?_
    refine L_get fX7_19 dX7_takeSum_59 (by decide) sh_3 rfl ?_
    rw [tk_ref (f9.k5 (f1.p.k5 (τ := τ) (hF.k5 h50))) ht]
    refine E_iload dX7_takeSum_62 rfl ?_
    refine E_V1v vX7_78_8 dX7_takeSum_64 (Nat.le_of_ble_eq_true rfl) (by have := ((isT_mk (t := τ) ht)).lt; omega) ((sh_T (isT_mk (t := τ) ht)) _) (s_X8_addSign ht hL9 (c := sgF t') (sg_tr2 a6) (fun S8 h8 c8 f8 => ?_))
    refine E_iinc (v := 1) dX7_takeSum_67 rfl (by decide) (by decide) ?_
    refine E_goto dX7_takeSum_70 ?_
    have f99 := (hF.tr f1.p).tr (f9.tr f8.p)
    have hs9 := p9.1.1
    refine E.loc (by exact ⟨rfl, rfl, rfl, rfl, rfl, trivial⟩) (ih S8 _ (i + 1) nots9 W9 C9 at9 te9 s9 e9 t9 (sgF t' :: Cc9) (((hT.cf f1).pf f9).pf f8.p) (k9.af f8) (c8 Cc9 at9 c9 (by omega)) p9 (GP_next (by decide) hsd a7 a5 v9 w9) (fun q hq => ?_) (fun z => ?_) n9 (by omega) r9 f99 (by rw [hx4, nI_1]) (by omega) (by omega))
    · rw [q9 q hq, teU, if_neg (by omega)]; exact q7 q hq
    · rw [u9 (by decide), teU, if_pos rfl, ← u7 z]; rfl
  · have hL9 : HL τ S9 := g9.1
    refine E_istore_n dX7_takeSum_57 (by decide) ?_
    refine E_aload_n dX7_takeSum_58 rfl ?_
    refine L_get fX7_19 dX7_takeSum_59 (by decide) sh_3 rfl ?_
    rw [tk_ref (f9.k5 (f1.p.k5 (τ := τ) (hF.k5 h50))) ht]
    refine E_iload dX7_takeSum_62 rfl ?_
    refine E_V1v vX7_78_8 dX7_takeSum_64 (Nat.le_of_ble_eq_true rfl) (by have := ((isT_mk (t := τ) ht)).lt; omega) ((sh_T (isT_mk (t := τ) ht)) _) (s_X8_addSign ht hL9 (c := sgF t') (sg_tr2 a6) (fun S8 h8 c8 f8 => ?_))
    refine E_iinc (v := 1) dX7_takeSum_67 rfl (by decide) (by decide) ?_
    refine E_goto dX7_takeSum_70 ?_
    obtain ⟨-, s9, e9, r9⟩ := g9
    exact E.loc (by exact ⟨rfl, rfl, rfl, rfl, rfl, trivial⟩) (z_X7_takeSum (((hT.cf f1).pf f9).pf f8.p) (hq0 S8 ⟨h8, s9, by rw [f8.2 3 (by omega) (by omega)]; exact e9, r9⟩ ((hF.tr f1.p).tr (f9.tr f8.p))))
theorem l_X7_takeSum {X : Nat} (ht : τ < 15) (hb : byOk b n) (hn : n ≤ 96) {m par nots lo : Nat} {W : List Int32} {te : Nat → Bool} {R0 : OU → Prop} {Q : Int32 → HP → Prop} {S0 : SS} (hS : LvP Θ b n τ key 5 m G1 (cTerm Θ (X + 6))) (hm : (8 - par) + (8 - nots) = m) (hsd : Sd 4 W) (enW : nots = nnF W) (h50 : S0 3 5 = nI τ) (hk0 : S0 (86 + 3 * τ) 1 = nI key) (hq1 : ∀ S', GP b n key τ 4 4 par lo W te R0 S' → PCF τ S0 S' → Q 1 (lay Θ S')) (hq0 : ∀ S', FltP τ R0 S' → PCF τ S0 S' → Q 0 (lay Θ S'))  : ∀ (f : Nat), ∀ (S : SS) (x4 : Int32) (i nots' : Nat) (W' C' : List Int32) (at' : Nat) (te' : Nat → Bool) (s' e' : Nat) (t' : Int32) (Cc : List Int32), CT S b n → MKc S s' e' t' → CPS S τ Cc at' → PIn b n key (false, par, nots', W', C', at', te', s', e', t') → stl 4 W' C' = (W, Cc) → (∀ q, q < par → te' q = te q) → (4 ≤ 4 → te' par = te par) → NC 5 t' (te' par) → lo < s' → (∀ o, Rx b n key (false, par, nots', W', C', at', te', s', e', t') o → R0 o) → PCF τ S0 S → x4 = nI i → i < s' → n < s' + f  → E Θ (X + 7) 0 0 yX7_takeSum cX7_takeSum 6 (some .boolean) 0 0 183 (lay Θ S) 10 [(4, .int x4), (3, .int 1), (2, .int (nI nots)), (1, .int (nI par)), (0, .ref (tb Θ + 3))] [] (Qi Q) := by
  intro f
  induction f with
  | zero =>
    intro S x4 i nots' W' C' at' te' s' e' t' Cc hT k7 c7 p7 v7 q7 u7 n7 l7 r7 hF hx4 hi hf
    have y1 := p7.1.1
    have y2 := p7.1.2.1
    omega
  | succ f ih =>
    intro S x4 i nots' W' C' at' te' s' e' t' Cc hT k7 c7 p7 v7 q7 u7 n7 l7 r7 hF hx4 hi hf
    have hop := p_X7_takeSum ht hb hn hS hm hsd enW h50 hk0 hq1 hq0 f ih
    have y1 := p7.1.1
    have y2 := p7.1.2.1
    refine E_iload dX7_takeSum_10 rfl ?_
    refine E_aload_n dX7_takeSum_12 rfl ?_
    refine L_get fX7_15 dX7_takeSum_13 (by decide) sh_3 rfl ?_
    rw [hT.1]
    refine E_icmp_ge dX7_takeSum_16 (fun c => absurd c (fun z => absurd ((nI_leI (by omega) (by omega)).mp (hx4 ▸ z)) (by omega))) (fun _ => ?_)
    refine E_iload_n dX7_takeSum_19 rfl ?_
    refine E_if_eq dX7_takeSum_20 (fun c => absurd c (by decide)) (fun _ => ?_)
    refine E_aload_n dX7_takeSum_23 rfl ?_
    refine L_get fX7_23 dX7_takeSum_24 (by decide) sh_3 rfl ?_
    rw [k7.2.2]
    refine E_bipush (v := 43) dX7_takeSum_27 (by decide) ?_
    refine E_icmp_eq dX7_takeSum_29 (fun c29 => ?_) (fun c29 => ?_)
    · refine E.loc (by exact ⟨rfl, rfl, rfl, rfl, rfl, trivial⟩) (hop S x4 i nots' W' C' at' te' s' e' t' Cc hT k7 c7 p7 v7 q7 u7 l7 r7 hF hx4 hi hf (Or.inr (Or.inr (Or.inr (Or.inl ⟨rfl, Or.inl c29⟩)))))
    · refine E_aload_n dX7_takeSum_32 rfl ?_
      refine L_get fX7_23 dX7_takeSum_33 (by decide) sh_3 rfl ?_
      rw [k7.2.2]
      refine E_bipush (v := 45) dX7_takeSum_36 (by decide) ?_
      refine E_icmp_ne dX7_takeSum_38 (fun c38 => ?_) (fun c38 => ?_)
      · refine E_iload_n dX7_takeSum_73 rfl ?_
        refine E_iret dX7_takeSum_74 rfl rfl ?_
        exact hq1 S ⟨nots', W', C', at', te', s', e', t', Cc, k7, c7, p7, fun _ => v7, fun z => absurd z (by decide), q7, u7, NC_down n7 (fun z => by rcases z with ⟨a, y⟩ | ⟨a, y⟩ | ⟨a, y⟩ | ⟨a, y⟩ | ⟨a, y⟩ <;> first | exact absurd a (by decide) | exact y.elim c29 c38), l7, r7⟩ hF
      · refine E.loc (by exact ⟨rfl, rfl, rfl, rfl, rfl, trivial⟩) (hop S x4 i nots' W' C' at' te' s' e' t' Cc hT k7 c7 p7 v7 q7 u7 l7 r7 hF hx4 hi hf (Or.inr (Or.inr (Or.inr (Or.inl ⟨rfl, Or.inr c38⟩)))))
theorem v_X7_takeSum (ht : τ < 15) (hb : byOk b n) {m X : Nat} (hS : LvP Θ b n τ key 5 m G1 (cTerm Θ (X + 6))) : LvP Θ b n τ key 4 m G1 (cSum Θ (X + 7)) := by
  intro S par nots W Cd at_ te s e t R0 Q hG hT h5 hkey hk hC hp hm hsd hte hR hq1 hq0
  have hn := hp.2.1
  refine C_of rfl rfl (Nat.le_of_ble_eq_true rfl) ?_
  refine E_aload_n dX7_takeSum_0 rfl ?_
  refine E_iload_n dX7_takeSum_1 rfl ?_
  refine E_iload_n dX7_takeSum_2 rfl ?_
  refine E_V2i vX7_87_7 dX7_takeSum_3 (Nat.le_of_ble_eq_true rfl) (by decide) (sh_3 _) (hS S par nots W Cd at_ te s e t R0 _ trivial hT h5 hkey hk hC hp hm (fun _ => (hsd (by decide)).up (by decide)) (fun z => hte (by omega)) hR (fun S9 g9 f9 => ?_) (fun S9 g9 f9 => ?_))
  · refine E_istore_n dX7_takeSum_6 (by decide) ?_
    refine E_ic (v := 0) dX7_takeSum_7 (by decide) ?_
    refine E_istore dX7_takeSum_8 (by decide) ?_
    obtain ⟨nots9, W9, C9, at9, te9, s9, e9, t9, Cc9, k9, c9, p9, v9, w9, q9, u9, n9, l9, r9⟩ := g9
    exact E.loc (by exact ⟨rfl, rfl, rfl, rfl, rfl, trivial⟩) (l_X7_takeSum (S0 := S) (lo := s) (te := te) ht hb hn hS hm (hsd (by decide)) hp.2.2.2.2.2.2.1 h5 hkey hq1 hq0 (n + 1) S9 0 0 nots9 W9 C9 at9 te9 s9 e9 t9 Cc9 (hT.pf f9) k9 c9 p9 (GP_low (by decide) (hsd (by decide)) v9 w9) q9 (fun z => u9 (by omega)) n9 l9 r9 f9 rfl (by omega) (by omega))
  · refine E_istore_n dX7_takeSum_6 (by decide) ?_
    refine E_ic (v := 0) dX7_takeSum_7 (by decide) ?_
    refine E_istore dX7_takeSum_8 (by decide) ?_
    exact E.loc (by exact ⟨rfl, rfl, rfl, rfl, rfl, trivial⟩) (z_X7_takeSum (hT.pf f9) (hq0 S9 g9 f9))
theorem z_X7_takeAnd {X : Nat} {S : SS} {Q : Int32 → HP → Prop} {x4 : Int32} {par nots : Nat} (hT : CT S b n) (hq : Q 0 (lay Θ S)) : E Θ (X + 9) 0 0 yX7_takeAnd cX7_takeAnd 5 (some .boolean) 0 0 183 (lay Θ S) 10 [(4, .int x4), (3, .int 0), (2, .int (nI nots)), (1, .int (nI par)), (0, .ref (tb Θ + 3))] [] (Qi Q) := by
  refine E_iload dX7_takeAnd_10 rfl ?_
  refine E_aload_n dX7_takeAnd_12 rfl ?_
  refine L_get fX7_15 dX7_takeAnd_13 (by decide) sh_3 rfl ?_
  rw [hT.1]
  refine E_icmp_ge dX7_takeAnd_16 (fun c16 => ?_) (fun c16 => ?_)
  · refine E_iload_n dX7_takeAnd_58 rfl ?_
    refine E_iret dX7_takeAnd_59 rfl rfl ?_
    exact hq
  · refine E_iload_n dX7_takeAnd_19 rfl ?_
    refine E_if_eq dX7_takeAnd_20 (fun _ => ?_) (fun c => absurd (by decide) c)
    refine E_iload_n dX7_takeAnd_58 rfl ?_
    refine E_iret dX7_takeAnd_59 rfl rfl ?_
    exact hq
theorem p_X7_takeAnd {X : Nat} (ht : τ < 15) (hb : byOk b n) (hn : n ≤ 96) {m par nots lo : Nat} {W : List Int32} {te : Nat → Bool} {R0 : OU → Prop} {Q : Int32 → HP → Prop} {S0 : SS} (hS : LvP Θ b n τ key 3 m G1 (cTest Θ (X + 8))) (hm : (8 - par) + (8 - nots) = m) (hsd : Sd 2 W) (enW : nots = nnF W) (h50 : S0 3 5 = nI τ) (hk0 : S0 (86 + 3 * τ) 1 = nI key) (hq1 : ∀ S', GP b n key τ 2 2 par lo W te R0 S' → PCF τ S0 S' → Q 1 (lay Θ S')) (hq0 : ∀ S', FltP τ R0 S' → PCF τ S0 S' → Q 0 (lay Θ S'))  : ∀ (f : Nat), (∀ (S : SS) (x4 : Int32) (i nots' : Nat) (W' C' : List Int32) (at' : Nat) (te' : Nat → Bool) (s' e' : Nat) (t' : Int32) (Cc : List Int32), CT S b n → MKc S s' e' t' → CPS S τ Cc at' → PIn b n key (false, par, nots', W', C', at', te', s', e', t') → stl 2 W' C' = (W, Cc) → (∀ q, q < par → te' q = te q) → (4 ≤ 2 → te' par = te par) → NC 3 t' (te' par) → lo < s' → (∀ o, Rx b n key (false, par, nots', W', C', at', te', s', e', t') o → R0 o) → PCF τ S0 S → x4 = nI i → i < s' → n < s' + f  → E Θ (X + 9) 0 0 yX7_takeAnd cX7_takeAnd 5 (some .boolean) 0 0 183 (lay Θ S) 10 [(4, .int x4), (3, .int 1), (2, .int (nI nots)), (1, .int (nI par)), (0, .ref (tb Θ + 3))] [] (Qi Q)) → ∀ (S : SS) (x4 : Int32) (i nots' : Nat) (W' C' : List Int32) (at' : Nat) (te' : Nat → Bool) (s' e' : Nat) (t' : Int32) (Cc : List Int32), CT S b n → MKc S s' e' t' → CPS S τ Cc at' → PIn b n key (false, par, nots', W', C', at', te', s', e', t') → stl 2 W' C' = (W, Cc) → (∀ q, q < par → te' q = te q) → (4 ≤ 2 → te' par = te par) →  lo < s' → (∀ o, Rx b n key (false, par, nots', W', C', at', te', s', e', t') o → R0 o) → PCF τ S0 S → x4 = nI i → i < s' → n < s' + f + 1 → sgL 2 t' → E Θ (X + 9) 0 0 yX7_takeAnd cX7_takeAnd 5 (some .boolean) 0 0 183 (lay Θ S) 32 [(4, .int x4), (3, .int 1), (2, .int (nI nots)), (1, .int (nI par)), (0, .ref (tb Θ + 3))] [] (Qi Q) := by
  intro f ih S x4 i nots' W' C' at' te' s' e' t' Cc hT k7 c7 p7 v7 q7 u7 l7 r7 hF hx4 hi hf sl
  obtain ⟨a1, a2, a3, a4, a5, a6, a7⟩ := op_step (lo := lo) (te := te) hb (by decide) sl (fun z => absurd z (by decide)) enW p7 v7 r7
  have hs2 := nxS_le (b := b) a3
  have sl1 : t' = 38 := by rcases sl with ⟨a, y⟩ | ⟨a, y⟩ | ⟨a, y⟩ | ⟨a, y⟩ | ⟨a, y⟩ <;> first | exact y | exact absurd a (by decide)
  refine E_aload_n dX7_takeAnd_32 rfl ?_
  refine E_V0v vX7_29_7 dX7_takeAnd_33 (Nat.le_of_ble_eq_true rfl) (by decide) (sh_3 _) (s_X7_goOn hT hn k7 a3 (fun S1 k1 f1 => ?_))
  refine E_aload_n dX7_takeAnd_36 rfl ?_
  refine E_iload_n dX7_takeAnd_37 rfl ?_
  refine E_iload_n dX7_takeAnd_38 rfl ?_
  refine E_V2i vX7_81_7 dX7_takeAnd_39 (Nat.le_of_ble_eq_true rfl) (by decide) (sh_3 _) (hS S1 par nots (sgF t' :: W) Cc at' _ _ _ _ R0 _ trivial (hT.cf f1) (f1.p.k5 (τ := τ) (hF.k5 h50)) (f1.p.k (hF.k hk0)) k1 (c7.cf f1) a1 hm (fun _ => Sd.top (Or.inr (by omega))) (fun z => by rw [teU, if_pos rfl]; rfl) a2 (fun S9 g9 f9 => ?_) (fun S9 g9 f9 => ?_))
  · obtain ⟨nots9, W9, C9, at9, te9, s9, e9, t9, Cc9, k9, c9, p9, v9, w9, q9, u9, n9, l9, r9⟩ := g9
    have hro := room (W0 := sgF t' :: W) (C0 := Cc9) p9 (GP_len v9 w9 (by decide))
    simp only [List.length_cons] at hro
    have hL9 : HL τ S9 := c9.hl (by omega)
    refine E_istore_n dX7_takeAnd_42 (by decide) ?_
    refine E_aload_n dX7_takeAnd_43 rfl ?_
    refine L_get fX7_19 dX7_takeAnd_44 (by decide) sh_3 rfl ?_
    rw [tk_ref (f9.k5 (f1.p.k5 (τ := τ) (hF.k5 h50))) ht]
    refine E_bipush (v := 38) dX7_takeAnd_47 (by decide) ?_
    refine E_V1v vX7_78_8 dX7_takeAnd_49 (Nat.le_of_ble_eq_true rfl) (by have := ((isT_mk (t := τ) ht)).lt; omega) ((sh_T (isT_mk (t := τ) ht)) _) (s_X8_addSign ht hL9 (c := sgF t') (by rw [← sg_tr2 a6, sl1]) (fun S8 h8 c8 f8 => ?_))
    refine E_iinc (v := 1) dX7_takeAnd_52 rfl (by decide) (by decide) ?_
    refine E_goto dX7_takeAnd_55 ?_
    have f99 := (hF.tr f1.p).tr (f9.tr f8.p)
    have hs9 := p9.1.1
    refine E.loc (by exact ⟨rfl, rfl, rfl, rfl, rfl, trivial⟩) (ih S8 _ (i + 1) nots9 W9 C9 at9 te9 s9 e9 t9 (sgF t' :: Cc9) (((hT.cf f1).pf f9).pf f8.p) (k9.af f8) (c8 Cc9 at9 c9 (by omega)) p9 (GP_next (by decide) hsd a7 a5 v9 w9) (fun q hq => ?_) (fun z => ?_) n9 (by omega) r9 f99 (by rw [hx4, nI_1]) (by omega) (by omega))
    · rw [q9 q hq, teU, if_neg (by omega)]; exact q7 q hq
    · exact absurd z (by decide)
  · have hL9 : HL τ S9 := g9.1
    refine E_istore_n dX7_takeAnd_42 (by decide) ?_
    refine E_aload_n dX7_takeAnd_43 rfl ?_
    refine L_get fX7_19 dX7_takeAnd_44 (by decide) sh_3 rfl ?_
    rw [tk_ref (f9.k5 (f1.p.k5 (τ := τ) (hF.k5 h50))) ht]
    refine E_bipush (v := 38) dX7_takeAnd_47 (by decide) ?_
    refine E_V1v vX7_78_8 dX7_takeAnd_49 (Nat.le_of_ble_eq_true rfl) (by have := ((isT_mk (t := τ) ht)).lt; omega) ((sh_T (isT_mk (t := τ) ht)) _) (s_X8_addSign ht hL9 (c := sgF t') (by rw [← sg_tr2 a6, sl1]) (fun S8 h8 c8 f8 => ?_))
    refine E_iinc (v := 1) dX7_takeAnd_52 rfl (by decide) (by decide) ?_
    refine E_goto dX7_takeAnd_55 ?_
    obtain ⟨-, s9, e9, r9⟩ := g9
    exact E.loc (by exact ⟨rfl, rfl, rfl, rfl, rfl, trivial⟩) (z_X7_takeAnd (((hT.cf f1).pf f9).pf f8.p) (hq0 S8 ⟨h8, s9, by rw [f8.2 3 (by omega) (by omega)]; exact e9, r9⟩ ((hF.tr f1.p).tr (f9.tr f8.p))))
theorem l_X7_takeAnd {X : Nat} (ht : τ < 15) (hb : byOk b n) (hn : n ≤ 96) {m par nots lo : Nat} {W : List Int32} {te : Nat → Bool} {R0 : OU → Prop} {Q : Int32 → HP → Prop} {S0 : SS} (hS : LvP Θ b n τ key 3 m G1 (cTest Θ (X + 8))) (hm : (8 - par) + (8 - nots) = m) (hsd : Sd 2 W) (enW : nots = nnF W) (h50 : S0 3 5 = nI τ) (hk0 : S0 (86 + 3 * τ) 1 = nI key) (hq1 : ∀ S', GP b n key τ 2 2 par lo W te R0 S' → PCF τ S0 S' → Q 1 (lay Θ S')) (hq0 : ∀ S', FltP τ R0 S' → PCF τ S0 S' → Q 0 (lay Θ S'))  : ∀ (f : Nat), ∀ (S : SS) (x4 : Int32) (i nots' : Nat) (W' C' : List Int32) (at' : Nat) (te' : Nat → Bool) (s' e' : Nat) (t' : Int32) (Cc : List Int32), CT S b n → MKc S s' e' t' → CPS S τ Cc at' → PIn b n key (false, par, nots', W', C', at', te', s', e', t') → stl 2 W' C' = (W, Cc) → (∀ q, q < par → te' q = te q) → (4 ≤ 2 → te' par = te par) → NC 3 t' (te' par) → lo < s' → (∀ o, Rx b n key (false, par, nots', W', C', at', te', s', e', t') o → R0 o) → PCF τ S0 S → x4 = nI i → i < s' → n < s' + f  → E Θ (X + 9) 0 0 yX7_takeAnd cX7_takeAnd 5 (some .boolean) 0 0 183 (lay Θ S) 10 [(4, .int x4), (3, .int 1), (2, .int (nI nots)), (1, .int (nI par)), (0, .ref (tb Θ + 3))] [] (Qi Q) := by
  intro f
  induction f with
  | zero =>
    intro S x4 i nots' W' C' at' te' s' e' t' Cc hT k7 c7 p7 v7 q7 u7 n7 l7 r7 hF hx4 hi hf
    have y1 := p7.1.1
    have y2 := p7.1.2.1
    omega
  | succ f ih =>
    intro S x4 i nots' W' C' at' te' s' e' t' Cc hT k7 c7 p7 v7 q7 u7 n7 l7 r7 hF hx4 hi hf
    have hop := p_X7_takeAnd ht hb hn hS hm hsd enW h50 hk0 hq1 hq0 f ih
    have y1 := p7.1.1
    have y2 := p7.1.2.1
    refine E_iload dX7_takeAnd_10 rfl ?_
    refine E_aload_n dX7_takeAnd_12 rfl ?_
    refine L_get fX7_15 dX7_takeAnd_13 (by decide) sh_3 rfl ?_
    rw [hT.1]
    refine E_icmp_ge dX7_takeAnd_16 (fun c => absurd c (fun z => absurd ((nI_leI (by omega) (by omega)).mp (hx4 ▸ z)) (by omega))) (fun _ => ?_)
    refine E_iload_n dX7_takeAnd_19 rfl ?_
    refine E_if_eq dX7_takeAnd_20 (fun c => absurd c (by decide)) (fun _ => ?_)
    refine E_aload_n dX7_takeAnd_23 rfl ?_
    refine L_get fX7_23 dX7_takeAnd_24 (by decide) sh_3 rfl ?_
    rw [k7.2.2]
    refine E_bipush (v := 38) dX7_takeAnd_27 (by decide) ?_
    refine E_icmp_ne dX7_takeAnd_29 (fun c29 => ?_) (fun c29 => ?_)
    · refine E_iload_n dX7_takeAnd_58 rfl ?_
      refine E_iret dX7_takeAnd_59 rfl rfl ?_
      exact hq1 S ⟨nots', W', C', at', te', s', e', t', Cc, k7, c7, p7, fun _ => v7, fun z => absurd z (by decide), q7, u7, NC_down n7 (fun z => by rcases z with ⟨a, y⟩ | ⟨a, y⟩ | ⟨a, y⟩ | ⟨a, y⟩ | ⟨a, y⟩ <;> first | exact c29 y | exact absurd a (by decide)), l7, r7⟩ hF
    · refine E.loc (by exact ⟨rfl, rfl, rfl, rfl, rfl, trivial⟩) (hop S x4 i nots' W' C' at' te' s' e' t' Cc hT k7 c7 p7 v7 q7 u7 l7 r7 hF hx4 hi hf (Or.inr (Or.inl ⟨rfl, c29⟩)))
theorem v_X7_takeAnd (ht : τ < 15) (hb : byOk b n) {m X : Nat} (hS : LvP Θ b n τ key 3 m G1 (cTest Θ (X + 8))) : LvP Θ b n τ key 2 m G1 (cAnd Θ (X + 9)) := by
  intro S par nots W Cd at_ te s e t R0 Q hG hT h5 hkey hk hC hp hm hsd hte hR hq1 hq0
  have hn := hp.2.1
  refine C_of rfl rfl (Nat.le_of_ble_eq_true rfl) ?_
  refine E_aload_n dX7_takeAnd_0 rfl ?_
  refine E_iload_n dX7_takeAnd_1 rfl ?_
  refine E_iload_n dX7_takeAnd_2 rfl ?_
  refine E_V2i vX7_81_7 dX7_takeAnd_3 (Nat.le_of_ble_eq_true rfl) (by decide) (sh_3 _) (hS S par nots W Cd at_ te s e t R0 _ trivial hT h5 hkey hk hC hp hm (fun _ => (hsd (by decide)).up (by decide)) (fun z => hte (by omega)) hR (fun S9 g9 f9 => ?_) (fun S9 g9 f9 => ?_))
  · refine E_istore_n dX7_takeAnd_6 (by decide) ?_
    refine E_ic (v := 0) dX7_takeAnd_7 (by decide) ?_
    refine E_istore dX7_takeAnd_8 (by decide) ?_
    obtain ⟨nots9, W9, C9, at9, te9, s9, e9, t9, Cc9, k9, c9, p9, v9, w9, q9, u9, n9, l9, r9⟩ := g9
    exact E.loc (by exact ⟨rfl, rfl, rfl, rfl, rfl, trivial⟩) (l_X7_takeAnd (S0 := S) (lo := s) (te := te) ht hb hn hS hm (hsd (by decide)) hp.2.2.2.2.2.2.1 h5 hkey hq1 hq0 (n + 1) S9 0 0 nots9 W9 C9 at9 te9 s9 e9 t9 Cc9 (hT.pf f9) k9 c9 p9 (GP_low (by decide) (hsd (by decide)) v9 w9) q9 (fun z => u9 (by omega)) n9 l9 r9 f9 rfl (by omega) (by omega))
  · refine E_istore_n dX7_takeAnd_6 (by decide) ?_
    refine E_ic (v := 0) dX7_takeAnd_7 (by decide) ?_
    refine E_istore dX7_takeAnd_8 (by decide) ?_
    exact E.loc (by exact ⟨rfl, rfl, rfl, rfl, rfl, trivial⟩) (z_X7_takeAnd (hT.pf f9) (hq0 S9 g9 f9))
theorem z_X7_takeOr {X : Nat} {S : SS} {Q : Int32 → HP → Prop} {x4 : Int32} {par nots : Nat} (hT : CT S b n) (hq : Q 0 (lay Θ S)) : E Θ (X + 10) 0 0 yX7_takeOr cX7_takeOr 5 (some .boolean) 0 0 183 (lay Θ S) 10 [(4, .int x4), (3, .int 0), (2, .int (nI nots)), (1, .int (nI par)), (0, .ref (tb Θ + 3))] [] (Qi Q) := by
  refine E_iload dX7_takeOr_10 rfl ?_
  refine E_aload_n dX7_takeOr_12 rfl ?_
  refine L_get fX7_15 dX7_takeOr_13 (by decide) sh_3 rfl ?_
  rw [hT.1]
  refine E_icmp_ge dX7_takeOr_16 (fun c16 => ?_) (fun c16 => ?_)
  · refine E_iload_n dX7_takeOr_58 rfl ?_
    refine E_iret dX7_takeOr_59 rfl rfl ?_
    exact hq
  · refine E_iload_n dX7_takeOr_19 rfl ?_
    refine E_if_eq dX7_takeOr_20 (fun _ => ?_) (fun c => absurd (by decide) c)
    refine E_iload_n dX7_takeOr_58 rfl ?_
    refine E_iret dX7_takeOr_59 rfl rfl ?_
    exact hq
theorem p_X7_takeOr {X : Nat} (ht : τ < 15) (hb : byOk b n) (hn : n ≤ 96) {m par nots lo : Nat} {W : List Int32} {te : Nat → Bool} {R0 : OU → Prop} {Q : Int32 → HP → Prop} {S0 : SS} (hS : LvP Θ b n τ key 2 m G1 (cAnd Θ (X + 9))) (hm : (8 - par) + (8 - nots) = m) (hsd : Sd 1 W) (enW : nots = nnF W) (h50 : S0 3 5 = nI τ) (hk0 : S0 (86 + 3 * τ) 1 = nI key) (hq1 : ∀ S', GP b n key τ 1 1 par lo W te R0 S' → PCF τ S0 S' → Q 1 (lay Θ S')) (hq0 : ∀ S', FltP τ R0 S' → PCF τ S0 S' → Q 0 (lay Θ S'))  : ∀ (f : Nat), (∀ (S : SS) (x4 : Int32) (i nots' : Nat) (W' C' : List Int32) (at' : Nat) (te' : Nat → Bool) (s' e' : Nat) (t' : Int32) (Cc : List Int32), CT S b n → MKc S s' e' t' → CPS S τ Cc at' → PIn b n key (false, par, nots', W', C', at', te', s', e', t') → stl 1 W' C' = (W, Cc) → (∀ q, q < par → te' q = te q) → (4 ≤ 1 → te' par = te par) → NC 2 t' (te' par) → lo < s' → (∀ o, Rx b n key (false, par, nots', W', C', at', te', s', e', t') o → R0 o) → PCF τ S0 S → x4 = nI i → i < s' → n < s' + f  → E Θ (X + 10) 0 0 yX7_takeOr cX7_takeOr 5 (some .boolean) 0 0 183 (lay Θ S) 10 [(4, .int x4), (3, .int 1), (2, .int (nI nots)), (1, .int (nI par)), (0, .ref (tb Θ + 3))] [] (Qi Q)) → ∀ (S : SS) (x4 : Int32) (i nots' : Nat) (W' C' : List Int32) (at' : Nat) (te' : Nat → Bool) (s' e' : Nat) (t' : Int32) (Cc : List Int32), CT S b n → MKc S s' e' t' → CPS S τ Cc at' → PIn b n key (false, par, nots', W', C', at', te', s', e', t') → stl 1 W' C' = (W, Cc) → (∀ q, q < par → te' q = te q) → (4 ≤ 1 → te' par = te par) →  lo < s' → (∀ o, Rx b n key (false, par, nots', W', C', at', te', s', e', t') o → R0 o) → PCF τ S0 S → x4 = nI i → i < s' → n < s' + f + 1 → sgL 1 t' → E Θ (X + 10) 0 0 yX7_takeOr cX7_takeOr 5 (some .boolean) 0 0 183 (lay Θ S) 32 [(4, .int x4), (3, .int 1), (2, .int (nI nots)), (1, .int (nI par)), (0, .ref (tb Θ + 3))] [] (Qi Q) := by
  intro f ih S x4 i nots' W' C' at' te' s' e' t' Cc hT k7 c7 p7 v7 q7 u7 l7 r7 hF hx4 hi hf sl
  obtain ⟨a1, a2, a3, a4, a5, a6, a7⟩ := op_step (lo := lo) (te := te) hb (by decide) sl (fun z => absurd z (by decide)) enW p7 v7 r7
  have hs2 := nxS_le (b := b) a3
  have sl1 : t' = 124 := by rcases sl with ⟨a, y⟩ | ⟨a, y⟩ | ⟨a, y⟩ | ⟨a, y⟩ | ⟨a, y⟩ <;> first | exact y | exact absurd a (by decide)
  refine E_aload_n dX7_takeOr_32 rfl ?_
  refine E_V0v vX7_29_7 dX7_takeOr_33 (Nat.le_of_ble_eq_true rfl) (by decide) (sh_3 _) (s_X7_goOn hT hn k7 a3 (fun S1 k1 f1 => ?_))
  refine E_aload_n dX7_takeOr_36 rfl ?_
  refine E_iload_n dX7_takeOr_37 rfl ?_
  refine E_iload_n dX7_takeOr_38 rfl ?_
  refine E_V2i vX7_75_7 dX7_takeOr_39 (Nat.le_of_ble_eq_true rfl) (by decide) (sh_3 _) (hS S1 par nots (sgF t' :: W) Cc at' _ _ _ _ R0 _ trivial (hT.cf f1) (f1.p.k5 (τ := τ) (hF.k5 h50)) (f1.p.k (hF.k hk0)) k1 (c7.cf f1) a1 hm (fun _ => Sd.top (Or.inr (by omega))) (fun z => by rw [teU, if_pos rfl]; rfl) a2 (fun S9 g9 f9 => ?_) (fun S9 g9 f9 => ?_))
  · obtain ⟨nots9, W9, C9, at9, te9, s9, e9, t9, Cc9, k9, c9, p9, v9, w9, q9, u9, n9, l9, r9⟩ := g9
    have hro := room (W0 := sgF t' :: W) (C0 := Cc9) p9 (GP_len v9 w9 (by decide))
    simp only [List.length_cons] at hro
    have hL9 : HL τ S9 := c9.hl (by omega)
    refine E_istore_n dX7_takeOr_42 (by decide) ?_
    refine E_aload_n dX7_takeOr_43 rfl ?_
    refine L_get fX7_19 dX7_takeOr_44 (by decide) sh_3 rfl ?_
    rw [tk_ref (f9.k5 (f1.p.k5 (τ := τ) (hF.k5 h50))) ht]
    refine E_bipush (v := 124) dX7_takeOr_47 (by decide) ?_
    refine E_V1v vX7_78_8 dX7_takeOr_49 (Nat.le_of_ble_eq_true rfl) (by have := ((isT_mk (t := τ) ht)).lt; omega) ((sh_T (isT_mk (t := τ) ht)) _) (s_X8_addSign ht hL9 (c := sgF t') (by rw [← sg_tr2 a6, sl1]) (fun S8 h8 c8 f8 => ?_))
    refine E_iinc (v := 1) dX7_takeOr_52 rfl (by decide) (by decide) ?_
    refine E_goto dX7_takeOr_55 ?_
    have f99 := (hF.tr f1.p).tr (f9.tr f8.p)
    have hs9 := p9.1.1
    refine E.loc (by exact ⟨rfl, rfl, rfl, rfl, rfl, trivial⟩) (ih S8 _ (i + 1) nots9 W9 C9 at9 te9 s9 e9 t9 (sgF t' :: Cc9) (((hT.cf f1).pf f9).pf f8.p) (k9.af f8) (c8 Cc9 at9 c9 (by omega)) p9 (GP_next (by decide) hsd a7 a5 v9 w9) (fun q hq => ?_) (fun z => ?_) n9 (by omega) r9 f99 (by rw [hx4, nI_1]) (by omega) (by omega))
    · rw [q9 q hq, teU, if_neg (by omega)]; exact q7 q hq
    · exact absurd z (by decide)
  · have hL9 : HL τ S9 := g9.1
    refine E_istore_n dX7_takeOr_42 (by decide) ?_
    refine E_aload_n dX7_takeOr_43 rfl ?_
    refine L_get fX7_19 dX7_takeOr_44 (by decide) sh_3 rfl ?_
    rw [tk_ref (f9.k5 (f1.p.k5 (τ := τ) (hF.k5 h50))) ht]
    refine E_bipush (v := 124) dX7_takeOr_47 (by decide) ?_
    refine E_V1v vX7_78_8 dX7_takeOr_49 (Nat.le_of_ble_eq_true rfl) (by have := ((isT_mk (t := τ) ht)).lt; omega) ((sh_T (isT_mk (t := τ) ht)) _) (s_X8_addSign ht hL9 (c := sgF t') (by rw [← sg_tr2 a6, sl1]) (fun S8 h8 c8 f8 => ?_))
    refine E_iinc (v := 1) dX7_takeOr_52 rfl (by decide) (by decide) ?_
    refine E_goto dX7_takeOr_55 ?_
    obtain ⟨-, s9, e9, r9⟩ := g9
    exact E.loc (by exact ⟨rfl, rfl, rfl, rfl, rfl, trivial⟩) (z_X7_takeOr (((hT.cf f1).pf f9).pf f8.p) (hq0 S8 ⟨h8, s9, by rw [f8.2 3 (by omega) (by omega)]; exact e9, r9⟩ ((hF.tr f1.p).tr (f9.tr f8.p))))
theorem l_X7_takeOr {X : Nat} (ht : τ < 15) (hb : byOk b n) (hn : n ≤ 96) {m par nots lo : Nat} {W : List Int32} {te : Nat → Bool} {R0 : OU → Prop} {Q : Int32 → HP → Prop} {S0 : SS} (hS : LvP Θ b n τ key 2 m G1 (cAnd Θ (X + 9))) (hm : (8 - par) + (8 - nots) = m) (hsd : Sd 1 W) (enW : nots = nnF W) (h50 : S0 3 5 = nI τ) (hk0 : S0 (86 + 3 * τ) 1 = nI key) (hq1 : ∀ S', GP b n key τ 1 1 par lo W te R0 S' → PCF τ S0 S' → Q 1 (lay Θ S')) (hq0 : ∀ S', FltP τ R0 S' → PCF τ S0 S' → Q 0 (lay Θ S'))  : ∀ (f : Nat), ∀ (S : SS) (x4 : Int32) (i nots' : Nat) (W' C' : List Int32) (at' : Nat) (te' : Nat → Bool) (s' e' : Nat) (t' : Int32) (Cc : List Int32), CT S b n → MKc S s' e' t' → CPS S τ Cc at' → PIn b n key (false, par, nots', W', C', at', te', s', e', t') → stl 1 W' C' = (W, Cc) → (∀ q, q < par → te' q = te q) → (4 ≤ 1 → te' par = te par) → NC 2 t' (te' par) → lo < s' → (∀ o, Rx b n key (false, par, nots', W', C', at', te', s', e', t') o → R0 o) → PCF τ S0 S → x4 = nI i → i < s' → n < s' + f  → E Θ (X + 10) 0 0 yX7_takeOr cX7_takeOr 5 (some .boolean) 0 0 183 (lay Θ S) 10 [(4, .int x4), (3, .int 1), (2, .int (nI nots)), (1, .int (nI par)), (0, .ref (tb Θ + 3))] [] (Qi Q) := by
  intro f
  induction f with
  | zero =>
    intro S x4 i nots' W' C' at' te' s' e' t' Cc hT k7 c7 p7 v7 q7 u7 n7 l7 r7 hF hx4 hi hf
    have y1 := p7.1.1
    have y2 := p7.1.2.1
    omega
  | succ f ih =>
    intro S x4 i nots' W' C' at' te' s' e' t' Cc hT k7 c7 p7 v7 q7 u7 n7 l7 r7 hF hx4 hi hf
    have hop := p_X7_takeOr ht hb hn hS hm hsd enW h50 hk0 hq1 hq0 f ih
    have y1 := p7.1.1
    have y2 := p7.1.2.1
    refine E_iload dX7_takeOr_10 rfl ?_
    refine E_aload_n dX7_takeOr_12 rfl ?_
    refine L_get fX7_15 dX7_takeOr_13 (by decide) sh_3 rfl ?_
    rw [hT.1]
    refine E_icmp_ge dX7_takeOr_16 (fun c => absurd c (fun z => absurd ((nI_leI (by omega) (by omega)).mp (hx4 ▸ z)) (by omega))) (fun _ => ?_)
    refine E_iload_n dX7_takeOr_19 rfl ?_
    refine E_if_eq dX7_takeOr_20 (fun c => absurd c (by decide)) (fun _ => ?_)
    refine E_aload_n dX7_takeOr_23 rfl ?_
    refine L_get fX7_23 dX7_takeOr_24 (by decide) sh_3 rfl ?_
    rw [k7.2.2]
    refine E_bipush (v := 124) dX7_takeOr_27 (by decide) ?_
    refine E_icmp_ne dX7_takeOr_29 (fun c29 => ?_) (fun c29 => ?_)
    · refine E_iload_n dX7_takeOr_58 rfl ?_
      refine E_iret dX7_takeOr_59 rfl rfl ?_
      exact hq1 S ⟨nots', W', C', at', te', s', e', t', Cc, k7, c7, p7, fun _ => v7, fun z => absurd z (by decide), q7, u7, NC_down n7 (fun z => by rcases z with ⟨a, y⟩ | ⟨a, y⟩ | ⟨a, y⟩ | ⟨a, y⟩ | ⟨a, y⟩ <;> first | exact c29 y | exact absurd a (by decide)), l7, r7⟩ hF
    · refine E.loc (by exact ⟨rfl, rfl, rfl, rfl, rfl, trivial⟩) (hop S x4 i nots' W' C' at' te' s' e' t' Cc hT k7 c7 p7 v7 q7 u7 l7 r7 hF hx4 hi hf (Or.inl ⟨rfl, c29⟩))
theorem v_X7_takeOr (ht : τ < 15) (hb : byOk b n) {m X : Nat} (hS : LvP Θ b n τ key 2 m G1 (cAnd Θ (X + 9))) : LvP Θ b n τ key 1 m G1 (cOr Θ (X + 10)) := by
  intro S par nots W Cd at_ te s e t R0 Q hG hT h5 hkey hk hC hp hm hsd hte hR hq1 hq0
  have hn := hp.2.1
  refine C_of rfl rfl (Nat.le_of_ble_eq_true rfl) ?_
  refine E_aload_n dX7_takeOr_0 rfl ?_
  refine E_iload_n dX7_takeOr_1 rfl ?_
  refine E_iload_n dX7_takeOr_2 rfl ?_
  refine E_V2i vX7_75_7 dX7_takeOr_3 (Nat.le_of_ble_eq_true rfl) (by decide) (sh_3 _) (hS S par nots W Cd at_ te s e t R0 _ trivial hT h5 hkey hk hC hp hm (fun _ => (hsd (by decide)).up (by decide)) (fun z => hte (by omega)) hR (fun S9 g9 f9 => ?_) (fun S9 g9 f9 => ?_))
  · refine E_istore_n dX7_takeOr_6 (by decide) ?_
    refine E_ic (v := 0) dX7_takeOr_7 (by decide) ?_
    refine E_istore dX7_takeOr_8 (by decide) ?_
    obtain ⟨nots9, W9, C9, at9, te9, s9, e9, t9, Cc9, k9, c9, p9, v9, w9, q9, u9, n9, l9, r9⟩ := g9
    exact E.loc (by exact ⟨rfl, rfl, rfl, rfl, rfl, trivial⟩) (l_X7_takeOr (S0 := S) (lo := s) (te := te) ht hb hn hS hm (hsd (by decide)) hp.2.2.2.2.2.2.1 h5 hkey hq1 hq0 (n + 1) S9 0 0 nots9 W9 C9 at9 te9 s9 e9 t9 Cc9 (hT.pf f9) k9 c9 p9 (GP_low (by decide) (hsd (by decide)) v9 w9) q9 (fun z => u9 (by omega)) n9 l9 r9 f9 rfl (by omega) (by omega))
  · refine E_istore_n dX7_takeOr_6 (by decide) ?_
    refine E_ic (v := 0) dX7_takeOr_7 (by decide) ?_
    refine E_istore dX7_takeOr_8 (by decide) ?_
    exact E.loc (by exact ⟨rfl, rfl, rfl, rfl, rfl, trivial⟩) (z_X7_takeOr (hT.pf f9) (hq0 S9 g9 f9))
end Le
