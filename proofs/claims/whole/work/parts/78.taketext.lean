/-! the class reads its tape -/
theorem tk_val {Θ : Th} {τ : Nat} (ht : τ < 15) : va_rf (tref Θ (nI τ)) = .ref (tb Θ + (86 + 3 * τ)) := by
  rw [tref, if_neg (show ¬ nI τ < 0 from i_lt (nI_le (a := 0) (Nat.zero_le τ) (by omega))), nI_clamp (by omega)]
  rfl
/-- what takeText may change -/
def TKF (τ : Nat) (S S' : SS) : Prop := (∀ j, (j < 2 ∨ 5 < j) → S' 3 j = S 3 j) ∧ (∀ j, (j < 1 ∨ 3 < j) → S' (86 + 3 * τ) j = S (86 + 3 * τ) j) ∧ ∀ k, k ≠ 3 → k ≠ 86 + 3 * τ → k ≠ 86 + 3 * τ + 1 → S' k = S k
theorem TKF.tr {τ : Nat} {S S' S'' : SS} (h : TKF τ S S') (h' : TKF τ S' S'') : TKF τ S S'' := ⟨fun j a => (h'.1 j a).trans (h.1 j a), fun j a => (h'.2.1 j a).trans (h.2.1 j a), fun k a b c => (h'.2.2 k a b c).trans (h.2.2 k a b c)⟩
theorem TKF.w3 {τ : Nat} {S : SS} {j : Nat} {x : Int32} (h : 2 ≤ j) (h' : j ≤ 5) : TKF τ S (wr S 3 j x) := ⟨fun i a => by rw [wr_at, pk_un (by omega)], fun i a => by rw [wr_ne (by omega)], fun k a _ _ => wr_ne a⟩
theorem TKF.wT {τ : Nat} {S : SS} {j : Nat} {x : Int32} (h : 1 ≤ j) (h' : j ≤ 3) : TKF τ S (wr S (86 + 3 * τ) j x) := ⟨fun i a => by rw [wr_ne (by omega)], fun i a => by rw [wr_at, pk_un (by omega)], fun k _ a _ => wr_ne a⟩
theorem PCF.t {τ : Nat} {S S' : SS} (h : PCF τ S S') : TKF τ S S' := ⟨fun j a => h.1 j (by omega), fun j a => h.2.1 j (by omega) (by omega), h.2.2⟩
theorem CT.tf {τ : Nat} {S S' : SS} {b : Nat → Int32} {n : Nat} (h : CT S b n) (hf : TKF τ S S') : CT S' b n := ⟨by rw [hf.1 1 (by omega)]; exact h.1, fun k hk => by rw [hf.2.2 4 (by omega) (by omega) (by omega)]; exact h.2 k hk⟩
section Tk
variable {Θ : Th} {d : Nat} {S : SS} {b : Nat → Int32} {n τ : Nat} {adK adV : Nat → Nat} {fv : Value}
theorem s_X7_goOn0 {Q : HP → Prop} (hT : CT S b n) (hn : n ≤ 96) {e : Nat} {t : Int32} (hk : S 3 3 = nI e ∧ S 3 4 = t) (he : e ≤ n) (hq : ∀ S', MKc S' (nxS b n e) (nxE b n e) (nxK b n e t) → CFr S S' → Q (lay Θ S')) : C Θ (d + 1) 0 0 yX7_goOn cX7_goOn 3 none [.ref (tb Θ + 3)] 183 (lay Θ S) (Qv Q) := by
  refine C_of rfl rfl (Nat.le_of_ble_eq_true rfl) ?_
  refine E_aload_n dX7_goOn_0 rfl ?_
  refine L_get fX7_26 dX7_goOn_1 (by decide) sh_3 rfl ?_
  rw [hk.1]
  refine E_istore_n dX7_goOn_4 (by decide) ?_
  refine E_aload_n dX7_goOn_5 rfl ?_
  refine L_get fX7_23 dX7_goOn_6 (by decide) sh_3 rfl ?_
  rw [hk.2]
  refine E_S1i sX7_46 dX7_goOn_9 (Nat.le_of_ble_eq_true rfl) (s_X7_isWord ?_)
  refine E_istore_n dX7_goOn_12 (by decide) ?_
  refine E_aload_n dX7_goOn_13 rfl ?_
  refine E_aload_n dX7_goOn_14 rfl ?_
  refine L_get fX7_26 dX7_goOn_15 (by decide) sh_3 rfl ?_
  rw [hk.1]
  refine L_puti fX7_50 dX7_goOn_18 (by decide) sh_3 (Nat.le_of_ble_eq_true rfl) rfl ?_
  refine E.loc (by exact ⟨rfl, rfl, rfl, trivial⟩) (l21_X7 hn (n - e) e (by omega) _ (hT.cf (CFr.w (by decide) (by decide))) (by rw [wr_at, pk_us]) (fun S9 h9 f9 => ?_))
  exact t59_X7 hn he ((hT.cf (CFr.w (by decide) (by decide))).cf f9) h9 rfl rfl ((CFr.w (by decide) (by decide)).tr f9) hq
theorem s_X8_begin {Q : HP → Prop} (ht : τ < 15) {x : Int32} (hq : Q (lay Θ (wr (wr (wr S (86 + 3 * τ) 1 x) (86 + 3 * τ) 2 0) (86 + 3 * τ) 3 0))) : C Θ d 0 0 yX8_begin cX8_begin 2 none [.ref (tb Θ + (86 + 3 * τ)), .int x] 183 (lay Θ S) (Qv Q) := by
  refine C_of rfl rfl (Nat.le_of_ble_eq_true rfl) ?_
  refine E_aload_n dX8_begin_0 rfl ?_
  refine E_iload_n dX8_begin_1 rfl ?_
  refine L_puti fX8_22 dX8_begin_2 (by have := ((isT_mk (t := τ) ht)).lt; omega) (sh_T (isT_mk (t := τ) ht)) (Nat.le_of_ble_eq_true rfl) rfl ?_
  refine E_aload_n dX8_begin_5 rfl ?_
  refine E_ic (v := 0) dX8_begin_6 (by decide) ?_
  refine L_puti fX8_25 dX8_begin_7 (by have := ((isT_mk (t := τ) ht)).lt; omega) (sh_T (isT_mk (t := τ) ht)) (Nat.le_of_ble_eq_true rfl) rfl ?_
  refine E_aload_n dX8_begin_10 rfl ?_
  refine E_ic (v := 0) dX8_begin_11 (by decide) ?_
  refine L_puti fX8_28 dX8_begin_12 (by have := ((isT_mk (t := τ) ht)).lt; omega) (sh_T (isT_mk (t := τ) ht)) (Nat.le_of_ble_eq_true rfl) rfl ?_
  refine E_vret dX8_begin_15 rfl rfl ?_
  exact hq
theorem s_X7_takeText {Q : Int32 → HP → Prop} (hX : HasS Θ adK adV fv) (ht : τ < 15) (hT : CT S b n) (hb : byOk b n) (hn : n ≤ 96) (hq1 : ∀ key L a, TxR b n key (some (L, a), 0) → ∀ S', CPS S' τ L a → S' (86 + 3 * τ) 1 = nI key → TKF τ S S' → Q 1 (lay Θ S')) (hq0 : ∀ key s, TxR b n key (none, s) → ∀ S', S' 3 2 = nI s → TKF τ S S' → Q 0 (lay Θ S')) : C Θ (d + 123) 0 0 yX7_takeText cX7_takeText 3 (some .boolean) [.ref (tb Θ + 3), .ref (tb Θ + (86 + 3 * τ))] 183 (lay Θ S) (Qi Q) := by
  refine C_of rfl rfl (Nat.le_of_ble_eq_true rfl) ?_
  rcases hke : keF b (nxS b n 0) (nxE b n 0) (nxK b n 0 258) with _ | key
  · refine E_aload_n dX7_takeText_0 rfl ?_
    refine E_aload_n dX7_takeText_1 rfl ?_
    refine L_put (x0 := nI τ) fX7_19 dX7_takeText_2 (by decide) sh_3 rfl rfl (Nat.le_of_ble_eq_true rfl) (by rw [← tk_val ht]; rfl) ?_
    refine E_aload_n dX7_takeText_5 rfl ?_
    refine E_sipush (v := 258) dX7_takeText_6 (by decide) ?_
    refine L_puti fX7_23 dX7_takeText_9 (by decide) sh_3 (Nat.le_of_ble_eq_true rfl) rfl ?_
    refine E_aload_n dX7_takeText_12 rfl ?_
    refine E_ic (v := 0) dX7_takeText_13 (by decide) ?_
    refine L_puti fX7_26 dX7_takeText_14 (by decide) sh_3 (Nat.le_of_ble_eq_true rfl) rfl ?_
    refine E_aload_n dX7_takeText_17 rfl ?_
    have fA : TKF τ S (wr (wr (wr S 3 5 (nI τ)) 3 4 258) 3 3 0) := (TKF.w3 (by decide) (by decide)).tr ((TKF.w3 (by decide) (by decide)).tr (TKF.w3 (by decide) (by decide)))
    have eA : (wr (wr (wr S 3 5 (nI τ)) 3 4 258) 3 3 0) 3 3 = nI 0 ∧ (wr (wr (wr S 3 5 (nI τ)) 3 4 258) 3 3 0) 3 4 = 258 := ⟨by rw [wr_at, pk_us]; rfl, by rw [wr_at, pk_un (by decide), wr_at, pk_us]⟩
    have gA : (wr (wr (wr S 3 5 (nI τ)) 3 4 258) 3 3 0) 3 5 = nI τ := by rw [wr_at, pk_un (by decide), wr_at, pk_un (by decide), wr_at, pk_us]
    have h1 := nxE_le (b := b) (Nat.zero_le n)
    have h2 := nxS_le (b := b) h1.2.1
    refine E_V0v vX7_29_7 dX7_takeText_18 (Nat.le_of_ble_eq_true rfl) (by decide) (sh_3 _) (s_X7_goOn0 (hT.tf fA) hn eA (Nat.zero_le _) (fun S1 k1 f1 => ?_))
    refine E_aload_n dX7_takeText_21 rfl ?_
    refine E_V0i vX7_32_7 dX7_takeText_22 (Nat.le_of_ble_eq_true rfl) (by decide) (sh_3 _) (s_X7_keyHere hX ((hT.tf fA).cf f1) hn k1 h1.1 h1.2.1 ⟨fun _ => ?_, fun i hi => absurd (hke.symm.trans hi) (by intro y; cases y)⟩)
    refine E_istore_n dX7_takeText_25 (by decide) ?_
    refine E_iload_n dX7_takeText_26 rfl ?_
    refine E_if_ge dX7_takeText_27 (fun c => absurd c (by decide)) (fun _ => ?_)
    refine E_ic (v := 0) dX7_takeText_30 (by decide) ?_
    refine E_iret dX7_takeText_31 rfl rfl ?_
    exact hq0 0 (nxS b n 0) ⟨fun _ => rfl, fun i hi => absurd (hke.symm.trans hi) (by intro y; cases y)⟩ S1 k1.1 (fA.tr (f1.p (τ := τ)).t)
  · refine E_aload_n dX7_takeText_0 rfl ?_
    refine E_aload_n dX7_takeText_1 rfl ?_
    refine L_put (x0 := nI τ) fX7_19 dX7_takeText_2 (by decide) sh_3 rfl rfl (Nat.le_of_ble_eq_true rfl) (by rw [← tk_val ht]; rfl) ?_
    refine E_aload_n dX7_takeText_5 rfl ?_
    refine E_sipush (v := 258) dX7_takeText_6 (by decide) ?_
    refine L_puti fX7_23 dX7_takeText_9 (by decide) sh_3 (Nat.le_of_ble_eq_true rfl) rfl ?_
    refine E_aload_n dX7_takeText_12 rfl ?_
    refine E_ic (v := 0) dX7_takeText_13 (by decide) ?_
    refine L_puti fX7_26 dX7_takeText_14 (by decide) sh_3 (Nat.le_of_ble_eq_true rfl) rfl ?_
    refine E_aload_n dX7_takeText_17 rfl ?_
    have fA : TKF τ S (wr (wr (wr S 3 5 (nI τ)) 3 4 258) 3 3 0) := (TKF.w3 (by decide) (by decide)).tr ((TKF.w3 (by decide) (by decide)).tr (TKF.w3 (by decide) (by decide)))
    have eA : (wr (wr (wr S 3 5 (nI τ)) 3 4 258) 3 3 0) 3 3 = nI 0 ∧ (wr (wr (wr S 3 5 (nI τ)) 3 4 258) 3 3 0) 3 4 = 258 := ⟨by rw [wr_at, pk_us]; rfl, by rw [wr_at, pk_un (by decide), wr_at, pk_us]⟩
    have gA : (wr (wr (wr S 3 5 (nI τ)) 3 4 258) 3 3 0) 3 5 = nI τ := by rw [wr_at, pk_un (by decide), wr_at, pk_un (by decide), wr_at, pk_us]
    have h1 := nxE_le (b := b) (Nat.zero_le n)
    have h2 := nxS_le (b := b) h1.2.1
    refine E_V0v vX7_29_7 dX7_takeText_18 (Nat.le_of_ble_eq_true rfl) (by decide) (sh_3 _) (s_X7_goOn0 (hT.tf fA) hn eA (Nat.zero_le _) (fun S1 k1 f1 => ?_))
    refine E_aload_n dX7_takeText_21 rfl ?_
    refine E_V0i vX7_32_7 dX7_takeText_22 (Nat.le_of_ble_eq_true rfl) (by decide) (sh_3 _) (s_X7_keyHere hX ((hT.tf fA).cf f1) hn k1 h1.1 h1.2.1 ⟨fun y => absurd (hke.symm.trans y) (by intro y; cases y), fun i hi => ?_⟩)
    obtain rfl := Option.some.inj (hke.symm.trans hi)
    refine E_istore_n dX7_takeText_25 (by decide) ?_
    refine E_iload_n dX7_takeText_26 rfl ?_
    refine E_if_ge dX7_takeText_27 (fun _ => ?_) (fun c => absurd (nI_pos' (by have := (ke_ok hke).1; omega)) c)
    refine E_aload_n dX7_takeText_32 rfl ?_
    refine L_get fX7_19 dX7_takeText_33 (by decide) sh_3 rfl ?_
    rw [tk_ref ((f1.1 5 (by omega)).trans gA) ht]
    refine E_iload_n dX7_takeText_36 rfl ?_
    refine E_V1v vX7_36_8 dX7_takeText_37 (Nat.le_of_ble_eq_true rfl) (by have := ((isT_mk (t := τ) ht)).lt; omega) ((sh_T (isT_mk (t := τ) ht)) _) (s_X8_begin ht ?_)
    refine E_aload_n dX7_takeText_40 rfl ?_
    have fB : TKF τ S1 (wr (wr (wr S1 (86 + 3 * τ) 1 (nI key)) (86 + 3 * τ) 2 0) (86 + 3 * τ) 3 0) := (TKF.wT (by decide) (by decide)).tr ((TKF.wT (by decide) (by decide)).tr (TKF.wT (by decide) (by decide)))
    have kB : MKc (wr (wr (wr S1 (86 + 3 * τ) 1 (nI key)) (86 + 3 * τ) 2 0) (86 + 3 * τ) 3 0) (nxS b n 0) (nxE b n 0) (nxK b n 0 258) := by
      unfold MKc
      rw [wr_ne (by omega), wr_ne (by omega), wr_ne (by omega)]
      exact k1
    have cB : CPS (wr (wr (wr S1 (86 + 3 * τ) 1 (nI key)) (86 + 3 * τ) 2 0) (86 + 3 * τ) 3 0) τ [] 0 := ⟨by rw [wr_at, pk_us]; rfl, trivial, by rw [wr_at, pk_un (by decide), wr_at, pk_us]; rfl⟩
    have keyB : (wr (wr (wr S1 (86 + 3 * τ) 1 (nI key)) (86 + 3 * τ) 2 0) (86 + 3 * τ) 3 0) (86 + 3 * τ) 1 = nI key := by rw [wr_at, pk_un (by decide), wr_at, pk_un (by decide), wr_at, pk_us]
    have g5B : (wr (wr (wr S1 (86 + 3 * τ) 1 (nI key)) (86 + 3 * τ) 2 0) (86 + 3 * τ) 3 0) 3 5 = nI τ := by
      rw [wr_ne (by omega), wr_ne (by omega), wr_ne (by omega), f1.1 5 (by omega)]
      exact gA
    obtain ⟨k3, k6, k5⟩ := ke_ok hke
    refine E_V0v vX7_29_7 dX7_takeText_41 (Nat.le_of_ble_eq_true rfl) (by decide) (sh_3 _) (s_X7_goOn (((hT.tf fA).cf f1).tf fB) hn kB h1.2.1 (fun S41 k41 f41 => ?_))
    refine E_aload_n dX7_takeText_44 rfl ?_
    refine E_ic (v := 0) dX7_takeText_45 (by decide) ?_
    refine E_ic (v := 0) dX7_takeText_46 (by decide) ?_
    have fall : TKF τ S S41 := (fA.tr (f1.p (τ := τ)).t).tr (fB.tr (f41.p (τ := τ)).t)
    have mk : ∀ o, Rx b n key (true, 0, 0, [], [], 0, fun _ => false, nxS b n (nxE b n 0), nxE b n (nxE b n 0), nxK b n (nxE b n 0) (nxK b n 0 258)) o → TxR b n key o := fun o ho => ⟨fun z => absurd (z.symm.trans hke) (by intro y; cases y), fun i hi => by
      have e := Option.some.inj (hke.symm.trans hi)
      subst e
      exact ⟨rfl, ho⟩⟩
    refine E_V2i vX7_42_7 dX7_takeText_47 (Nat.le_of_ble_eq_true rfl) (by decide) (sh_3 _) (v_or hX ht hb k3 d S41 0 0 [] [] 0 (fun _ => false) _ _ _ (fun o => Rx b n key (true, 0, 0, [], [], 0, fun _ => false, nxS b n (nxE b n 0), nxE b n (nxE b n 0), nxK b n (nxE b n 0) (nxK b n 0 258)) o) _ trivial ((((hT.tf fA).cf f1).tf fB).cf f41) ((f41.p (τ := τ)).k5 g5B) (f41.p.k keyB) k41 (cB.cf f41) (PIn_0 (nx_ok hb h1.2.1) hn (by omega)) rfl (fun _ => Sd.nil) (fun _ => rfl) (fun _ z => z) (fun S9 g9 f9 => ?_) (fun S9 g9 f9 => ?_))
    · obtain ⟨nots9, W9, C9, at9, te9, s9, e9, t9, Cc9, k9, c9, p9, v9, w9, q9, u9, n9, l9, r9⟩ := g9
      have e0 : stl 0 W9 C9 = ([], Cc9) := (stl_01 W9 C9).trans (v9 (by decide))
      refine E_if_eq dX7_takeText_50 (fun c => absurd c (by decide)) (fun _ => ?_)
      refine E_aload_n dX7_takeText_53 rfl ?_
      refine L_get fX7_23 dX7_takeText_54 (by decide) sh_3 rfl ?_
      rw [k9.2.2]
      refine E_sipush (v := 258) dX7_takeText_57 (by decide) ?_
      refine E_icmp_ne dX7_takeText_60 (fun c60 => ?_) (fun c60 => ?_)
      · refine E_ic (v := 0) dX7_takeText_67 (by decide) ?_
        refine E_iret dX7_takeText_68 rfl rfl ?_
        refine hq0 key s9 (mk _ (r9 _ (Rx_stop (fun z => c60 z.1) (fun z => absurd z.2 (by decide)) ?_))) S9 k9.1 (fall.tr f9.t)
        by_cases hg : sgF t9 = 0
        · exact Or.inl hg
        · rcases n9 hg with z | z
          · have := rk_1 (sgF t9)
            omega
          · exact Or.inr z
      · refine E_ic (v := 1) dX7_takeText_63 (by decide) ?_
        refine E_goto dX7_takeText_64 ?_
        refine E_iret dX7_takeText_68 rfl rfl ?_
        have rr := mk _ (r9 _ (Rx_end (x := 0) c60 rfl))
        rw [e0] at rr
        exact hq1 key Cc9 at9 rr S9 c9 (f9.k (f41.p.k keyB)) (fall.tr f9.t)
    · refine E_if_eq dX7_takeText_50 (fun _ => ?_) (fun c => absurd (by decide) c)
      refine E_ic (v := 0) dX7_takeText_67 (by decide) ?_
      refine E_iret dX7_takeText_68 rfl rfl ?_
      obtain ⟨-, s9, e9, r9⟩ := g9
      exact hq0 key s9 (mk _ r9) S9 e9 (fall.tr f9.t)
end Tk
