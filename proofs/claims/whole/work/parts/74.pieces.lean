/-! the class's pieces -/
def LvP (Θ : Th) (b : Nat → Int32) (n τ key r m : Nat) (G : Nat → Nat → Int32 → Prop) (CC : Nat → Nat → SS → (Int32 → HP → Prop) → Prop) : Prop := ∀ (S : SS) (par nots : Nat) (W Cd : List Int32) (at_ : Nat) (te : Nat → Bool) (s e : Nat) (t : Int32) (R0 : OU → Prop) (Q : Int32 → HP → Prop), G par nots t → CT S b n → S 3 5 = nI τ → S (86 + 3 * τ) 1 = nI key → MKc S s e t → CPS S τ Cd at_ → PIn b n key (true, par, nots, W, Cd, at_, te, s, e, t) → (8 - par) + (8 - nots) = m → (r ≤ 5 → Sd r W) → (r ≤ 3 → te par = false) → (∀ o, Rx b n key (true, par, nots, W, Cd, at_, te, s, e, t) o → R0 o) → (∀ S', GP b n key τ r r par s W te R0 S' → PCF τ S S' → Q 1 (lay Θ S')) → (∀ S', FltP τ R0 S' → PCF τ S S' → Q 0 (lay Θ S')) → CC par nots S Q
abbrev G1 : Nat → Nat → Int32 → Prop := fun _ _ _ => True
abbrev GN : Nat → Nat → Int32 → Prop := fun _ nots t => nots < 8 ∧ t = 33
abbrev GB : Nat → Nat → Int32 → Prop := fun par _ t => par < 8 ∧ t = 40
abbrev cOr (Θ : Th) (D : Nat) : Nat → Nat → SS → (Int32 → HP → Prop) → Prop := fun par nots S Q => C Θ D 0 0 yX7_takeOr cX7_takeOr 5 (some .boolean) [.ref (tb Θ + 3), .int (nI par), .int (nI nots)] 183 (lay Θ S) (Qi Q)
abbrev cAnd (Θ : Th) (D : Nat) : Nat → Nat → SS → (Int32 → HP → Prop) → Prop := fun par nots S Q => C Θ D 0 0 yX7_takeAnd cX7_takeAnd 5 (some .boolean) [.ref (tb Θ + 3), .int (nI par), .int (nI nots)] 183 (lay Θ S) (Qi Q)
abbrev cTest (Θ : Th) (D : Nat) : Nat → Nat → SS → (Int32 → HP → Prop) → Prop := fun par nots S Q => C Θ D 0 0 yX7_takeTest cX7_takeTest 5 (some .boolean) [.ref (tb Θ + 3), .int (nI par), .int (nI nots)] 183 (lay Θ S) (Qi Q)
abbrev cSum (Θ : Th) (D : Nat) : Nat → Nat → SS → (Int32 → HP → Prop) → Prop := fun par nots S Q => C Θ D 0 0 yX7_takeSum cX7_takeSum 6 (some .boolean) [.ref (tb Θ + 3), .int (nI par), .int (nI nots)] 183 (lay Θ S) (Qi Q)
abbrev cTerm (Θ : Th) (D : Nat) : Nat → Nat → SS → (Int32 → HP → Prop) → Prop := fun par nots S Q => C Θ D 0 0 yX7_takeTerm cX7_takeTerm 6 (some .boolean) [.ref (tb Θ + 3), .int (nI par), .int (nI nots)] 183 (lay Θ S) (Qi Q)
abbrev cPiece (Θ : Th) (D : Nat) : Nat → Nat → SS → (Int32 → HP → Prop) → Prop := fun par nots S Q => C Θ D 0 0 yX7_takePiece cX7_takePiece 3 (some .boolean) [.ref (tb Θ + 3), .int (nI par), .int (nI nots)] 183 (lay Θ S) (Qi Q)
abbrev cNot (Θ : Th) (D : Nat) : Nat → Nat → SS → (Int32 → HP → Prop) → Prop := fun par nots S Q => C Θ D 0 0 yX7_takeNot cX7_takeNot 4 (some .boolean) [.ref (tb Θ + 3), .int (nI par), .int (nI (nots + 1))] 183 (lay Θ S) (Qi Q)
abbrev cBr (Θ : Th) (D : Nat) : Nat → Nat → SS → (Int32 → HP → Prop) → Prop := fun par nots S Q => C Θ D 0 0 yX7_takeBracket cX7_takeBracket 3 (some .boolean) [.ref (tb Θ + 3), .int (nI (par + 1)), .int (nI nots)] 183 (lay Θ S) (Qi Q)
theorem PCF.k {τ : Nat} {S S' : SS} (h : PCF τ S S') {x : Int32} (e : S (86 + 3 * τ) 1 = x) : S' (86 + 3 * τ) 1 = x := (h.2.1 1 (by decide) (by decide)).trans e
theorem PCF.k5 {τ : Nat} {S S' : SS} (h : PCF τ S S') {x : Int32} (e : S 3 5 = x) : S' 3 5 = x := (h.1 5 (by omega)).trans e
/-- room for one more code -/
theorem room {b : Nat → Int32} {n key par nots at_ s e : Nat} {W C W0 C0 : List Int32} {te : Nat → Bool} {t : Int32} {w : Bool} (hp : PIn b n key (w, par, nots, W, C, at_, te, s, e, t)) (h : W0.length + C0.length = W.length + C.length) : W0.length + C0.length ≤ 96 := by
  have h1 := hp.1.1
  have h2 := hp.1.2.1
  have h3 := hp.2.1
  have h4 := hp.2.2.1
  omega
theorem paF_no {b : Nat → Int32} {key s e : Nat} {t : Int32} (h6 : ¬ t = 256) (h7 : ¬ t = 257) : paF b key s e t = none := by rw [paF, if_neg h7, if_neg h6]
section Lv
variable {Θ : Th} {b : Nat → Int32} {n τ key : Nat} {adK adV : Nat → Nat} {fv : Value}
theorem v_X7_takeNot (ht : τ < 15) (hb : byOk b n) {m X : Nat} (hP : LvP Θ b n τ key 6 m G1 (cPiece Θ (X + 10))) : LvP Θ b n τ key 6 (m + 1) GN (cNot Θ (X + 11)) := by
  intro S par nots W Cd at_ te s e t R0 Q hG hT h5 hkey hk hC hp hm hsd hte hR hq1 hq0
  obtain ⟨h8, h33⟩ := hG
  have t8 : ¬ t = 258 := by rw [h33]; decide
  have hp1 := PIn_not hb hp t8 h8
  have enn : nnF (-10 :: W) = nots + 1 := by rw [nnF, if_pos rfl, hp.2.2.2.2.2.2.1]
  rw [enn] at hp1
  have hlt := hp.1.2.2.2.1 t8
  have hen := hp.1.2.1
  have hse := hp.1.1
  have hn := hp.2.1
  have hs1 := nxS_le (b := b) hen
  refine C_of rfl rfl (Nat.le_of_ble_eq_true rfl) ?_
  refine E_aload_n dX7_takeNot_0 rfl ?_
  refine E_V0v vX7_29_7 dX7_takeNot_1 (Nat.le_of_ble_eq_true rfl) (by decide) (sh_3 _) (s_X7_goOn hT hn hk hen (fun S1 k1 f1 => ?_))
  refine E_aload_n dX7_takeNot_4 rfl ?_
  refine E_iload_n dX7_takeNot_5 rfl ?_
  refine E_iload_n dX7_takeNot_6 rfl ?_
  refine E_V2i vX7_90_7 dX7_takeNot_7 (Nat.le_of_ble_eq_true rfl) (by decide) (sh_3 _) (hP S1 par (nots + 1) (-10 :: W) Cd at_ te _ _ _ R0 _ trivial (hT.cf f1) (f1.p.k5 (τ := τ) h5) (f1.p.k hkey) k1 (hC.cf f1) hp1 (by omega) (fun z => absurd z (by decide)) (fun z => absurd z (by decide)) (fun o ho => hR o (Rx_not h33 h8 (by rw [enn]; exact ho))) (fun S7 g7 f7 => ?_) (fun S7 g7 f7 => ?_))
  · obtain ⟨nots', W', C', at', te', s', e', t', Cc, k7, c7, p7, v7, w7, q7, u7, n7, l7, r7⟩ := g7
    have h57 : S7 3 5 = nI τ := f7.k5 (f1.p.k5 (τ := τ) h5)
    have hl := stl_len (r := 6) (-10 :: W) Cc
    rw [w7 rfl] at hl
    have hro := room (W0 := -10 :: W) (C0 := Cc) p7 hl.symm
    simp only [List.length_cons] at hro
    have hL7 : HL τ S7 := c7.hl (by omega)
    refine E_istore_n dX7_takeNot_10 (by decide) ?_
    refine E_aload_n dX7_takeNot_11 rfl ?_
    refine L_get fX7_19 dX7_takeNot_12 (by decide) sh_3 rfl ?_
    rw [tk_ref h57 ht]
    refine E_bipush (v := 33) dX7_takeNot_15 (by decide) ?_
    refine E_V1v vX7_78_8 dX7_takeNot_17 (Nat.le_of_ble_eq_true rfl) (by have := ((isT_mk (t := τ) ht)).lt; omega) ((sh_T (isT_mk (t := τ) ht)) _) (s_X8_addSign ht hL7 (c := -10) sg_tr.1 (fun S9 h9 c9 f9 => ?_))
    refine E_iload_n dX7_takeNot_20 rfl ?_
    refine E_iret dX7_takeNot_21 rfl rfl ?_
    exact hq1 S9 ⟨nots', W', C', at', te', s', e', t', -10 :: Cc, k7.af f9, c9 Cc at' c7 (by omega), p7, fun z => absurd z (by decide), fun _ => (stl_top (by decide) (by rw [rk_10]; omega)).symm.trans (w7 rfl), q7, u7, n7, by omega, r7⟩ ((f1.p.tr f7).tr f9.p)
  · have h57 : S7 3 5 = nI τ := f7.k5 (f1.p.k5 (τ := τ) h5)
    have hL7 : HL τ S7 := g7.1
    refine E_istore_n dX7_takeNot_10 (by decide) ?_
    refine E_aload_n dX7_takeNot_11 rfl ?_
    refine L_get fX7_19 dX7_takeNot_12 (by decide) sh_3 rfl ?_
    rw [tk_ref h57 ht]
    refine E_bipush (v := 33) dX7_takeNot_15 (by decide) ?_
    refine E_V1v vX7_78_8 dX7_takeNot_17 (Nat.le_of_ble_eq_true rfl) (by have := ((isT_mk (t := τ) ht)).lt; omega) ((sh_T (isT_mk (t := τ) ht)) _) (s_X8_addSign ht hL7 (c := -10) sg_tr.1 (fun S9 h9 c9 f9 => ?_))
    refine E_iload_n dX7_takeNot_20 rfl ?_
    refine E_iret dX7_takeNot_21 rfl rfl ?_
    obtain ⟨-, s', e7, r7⟩ := g7
    exact hq0 S9 ⟨h9, s', by rw [f9.2 3 (by omega) (by omega)]; exact e7, r7⟩ ((f1.p.tr f7).tr f9.p)
theorem v_X7_takeBracket (hb : byOk b n) {m X : Nat} (hO : LvP Θ b n τ key 1 m G1 (cOr Θ (X + 10))) : LvP Θ b n τ key 6 (m + 1) GB (cBr Θ (X + 11)) := by
  intro S par nots W Cd at_ te s e t R0 Q hG hT h5 hkey hk hC hp hm hsd hte hR hq1 hq0
  obtain ⟨h8, h40⟩ := hG
  have t8 : ¬ t = 258 := by rw [h40]; decide
  have hp1 := PIn_open hb hp t8 h8
  have enn : nnF (-11 :: W) = nots := by rw [nnF, if_neg (by decide), hp.2.2.2.2.2.2.1]; rfl
  rw [enn] at hp1
  have hlt := hp.1.2.2.2.1 t8
  have hen := hp.1.2.1
  have hse := hp.1.1
  have hn := hp.2.1
  have hs1 := nxS_le (b := b) hen
  refine C_of rfl rfl (Nat.le_of_ble_eq_true rfl) ?_
  refine E_aload_n dX7_takeBracket_0 rfl ?_
  refine E_V0v vX7_29_7 dX7_takeBracket_1 (Nat.le_of_ble_eq_true rfl) (by decide) (sh_3 _) (s_X7_goOn hT hn hk hen (fun S1 k1 f1 => ?_))
  refine E_aload_n dX7_takeBracket_4 rfl ?_
  refine E_iload_n dX7_takeBracket_5 rfl ?_
  refine E_iload_n dX7_takeBracket_6 rfl ?_
  refine E_V2i vX7_42_7 dX7_takeBracket_7 (Nat.le_of_ble_eq_true rfl) (by decide) (sh_3 _) (hO S1 (par + 1) nots (-11 :: W) Cd at_ (teU te (par + 1) false) _ _ _ R0 _ trivial (hT.cf f1) (f1.p.k5 (τ := τ) h5) (f1.p.k hkey) k1 (hC.cf f1) hp1 (by omega) (fun _ => Sd.top (Or.inl rfl)) (fun _ => by rw [teU, if_pos rfl]) (fun o ho => hR o (Rx_open h40 h8 (by rw [enn]; exact ho))) (fun S7 g7 f7 => ?_) (fun S7 g7 f7 => ?_))
  · obtain ⟨nots', W', C', at', te', s', e', t', Cc, k7, c7, p7, v7, w7, q7, u7, n7, l7, r7⟩ := g7
    have hl := stl_len (r := 1) W' C'
    have ew := v7 (by decide)
    rw [ew] at hl
    have hro := room (W0 := -11 :: W) (C0 := Cc) p7 hl
    have e0 : stl 0 W' C' = (-11 :: W, Cc) := (stl_01 W' C').trans ew
    refine E_if_eq dX7_takeBracket_10 (fun c => absurd c (by decide)) (fun _ => ?_)
    refine E_aload_n dX7_takeBracket_13 rfl ?_
    refine L_get fX7_23 dX7_takeBracket_14 (by decide) sh_3 rfl ?_
    rw [k7.2.2]
    refine E_bipush (v := 41) dX7_takeBracket_17 (by decide) ?_
    refine E_icmp_eq dX7_takeBracket_19 (fun c19 => ?_) (fun c19 => ?_)
    · refine E_aload_n dX7_takeBracket_24 rfl ?_
      refine E_V0v vX7_29_7 dX7_takeBracket_25 (Nat.le_of_ble_eq_true rfl) (by decide) (sh_3 _) (s_X7_goOn ((hT.cf f1).pf f7) hn k7 p7.1.2.1 (fun S8 k8 f8 => ?_))
      refine E_ic (v := 1) dX7_takeBracket_28 (by decide) ?_
      refine E_iret dX7_takeBracket_29 rfl rfl ?_
      have t8' : ¬ t' = 258 := by rw [c19]; decide
      have hlt' := p7.1.2.2.2.1 t8'
      have hs2 := nxS_le (b := b) p7.1.2.1
      have hs3 := p7.1.1
      have pc := PIn_close hb p7 t8' (by omega)
      have rc : ∀ o, Rx b n key _ o → R0 o := fun o ho => r7 o (Rx_close c19 (by omega) ho)
      rw [e0, List.tail_cons, Nat.add_sub_cancel] at pc rc
      refine hq1 S8 ⟨_, _, _, at', te', _, _, _, Cc, k8, c7.cf f8, pc, fun z => absurd z (by decide), fun _ => rfl, fun q hq => ?_, fun _ => ?_, NC_6, by omega, rc⟩ ((f1.p.tr f7).tr f8.p)
      · rw [q7 q (by omega), teU, if_neg (by omega)]
      · rw [q7 par (by omega), teU, if_neg (by omega)]
    · refine E_ic (v := 0) dX7_takeBracket_22 (by decide) ?_
      refine E_iret dX7_takeBracket_23 rfl rfl ?_
      refine hq0 S7 ⟨c7.hl (by simp only [List.length_cons] at hro; omega), s', k7.1, r7 _ (Rx_stop (fun z => absurd z.2 (by omega)) (fun z => c19 z.1) ?_)⟩ (f1.p.tr f7)
      by_cases hg : sgF t' = 0
      · exact Or.inl hg
      · rcases n7 hg with z | z
        · have := rk_1 (sgF t')
          omega
        · exact Or.inr z
  · refine E_if_eq dX7_takeBracket_10 (fun _ => ?_) (fun c => absurd (by decide) c)
    refine E_ic (v := 0) dX7_takeBracket_22 (by decide) ?_
    refine E_iret dX7_takeBracket_23 rfl rfl ?_
    exact hq0 S7 g7 (f1.p.tr f7)
end Lv
