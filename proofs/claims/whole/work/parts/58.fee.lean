/-! fee, fine, textTold, why; trim, feed, on both sides -/
theorem cnt_key {v : WV} {key : Int32} : ∀ n i, n ≤ 100 → cntF v key n = nI i → i < 100 → i < n ∧ v (96 + 2 * i) / 1000 = key
  | 0, i, _, h, hi => absurd h (fun e => nI_pos (n := i) (by omega) (by rw [← e, cntF]; decide))
  | n + 1, i, hn, h, hi => by
    rw [cntF] at h
    by_cases c : v (96 + 2 * n) / 1000 = key
    · rw [if_pos c] at h
      have := nI_inj (by omega) (by omega) h
      subst this
      exact ⟨by omega, c⟩
    · rw [if_neg c] at h
      obtain ⟨a, b⟩ := cnt_key n i (by omega) h hi
      exact ⟨by omega, b⟩
theorem evL_two {fa fb cd : Nat → Int32} (h0 : fa 0 = fb 0) (h1 : fa 1 = fb 1) : ∀ k, (∀ i, i < k → cd i < 10002) → evL fa cd k = evL fb cd k
  | 0, _ => rfl
  | k + 1, h => by
    rw [evL, evL, evL_two h0 h1 k (fun i hi => h i (by omega))]
    have hk := h k (by omega)
    unfold evS
    by_cases c0 : 0 ≤ cd k
    · rw [if_pos c0, if_pos c0]
      by_cases c1 : cd k < 10000
      · rw [if_pos c1, if_pos c1]
      · rw [if_neg c1, if_neg c1]
        obtain ⟨j, hj, e⟩ := nI_of (x := cd k) (i_lt c0)
        rw [e] at c1 hk ⊢
        have a := (nI_leI (a := 10000) (by omega) hj).mp (i_nlt c1)
        have b := (nI_ltI (b := 10002) hj (by omega)).mp hk
        rw [show nI j - 10000 = nI (j - 10000) from pk_sub (b := 10000) a, nI_clamp (by omega)]
        rcases (show j - 10000 = 0 ∨ j - 10000 = 1 by omega) with z | z
        · rw [z, h0]
        · rw [z, h1]
    · rw [if_neg c0, if_neg c0]
/-- keys and names of texts -/
def TxK (v : WV) : Prop := ∀ t, t < tN v → (∃ q, q < 3 ∧ v (96 + 2 * t) / 1000 = nI q) ∧ (¬ v (96 + 2 * t) / 1000 = 0 → ∀ k, k < lnF v t → cdF v t k < 10002)
theorem ev_two {v : WV} {t : Nat} {a b x y : Int32} (h : TxK v) (ht : t < tN v) (hk : ¬ v (96 + 2 * t) / 1000 = 0) : evF v t (f3 a b x) = evF v t (f3 a b y) := by
  rw [evF, evF, evL_two (fa := f3 a b x) (fb := f3 a b y) rfl rfl _ ((h t ht).2 hk)]
theorem TxK.hi {v u : WV} (h : TxK v) (h14 : u 14 = v 14) (hh : eqHi v u) : TxK u := by
  intro t ht
  rw [show tN u = tN v by rw [tN, tN, h14]] at ht
  rw [ln_hi hh, cd_hi hh, hh (96 + 2 * t) (by omega)]
  exact h t ht
def feeR (v : WV) : Int32 := if lawF v 1 < 0 then v 10 else evF v (lawF v 1).toNatClampNeg (f3 (v 10) (v 11) 0)
def fineR (v : WV) (x : Int32) : Int32 := (ix x (mN v)).elim bad fun p => if lawF v 2 < 0 then v (17 + 9 * p) else evF v (lawF v 2).toNatClampNeg (f3 (v (17 + 9 * p)) (v (16 + 9 * p)) 0)
def textToldR (v : WV) (x z : Int32) : Int32 := (ix x (tN v)).elim bad fun t => if 0 ≤ z ∧ z ≤ 1 then (if z = 0 then v (96 + 2 * t) / 1000 else v (97 + 2 * t)) else bad
def whyR (v : WV) (x : Int32) : Int32 := if 0 ≤ x ∧ x ≤ 2 then (if lawF v x < 0 then nobody else lawF v x) else bad
theorem law_t {v : WV} {key : Int32} (iv : IV v) (h : ¬ lawF v key < 0) : ∃ t, t < tN v ∧ t < 14 ∧ lawF v key = nI t ∧ v (96 + 2 * t) / 1000 = key := by
  have hl := tN_le iv
  obtain ⟨i, hi, e⟩ := cnt_ix (v := v) (key := key) (tN v) (i_nlt h)
  obtain ⟨a, b⟩ := cnt_key (v := v) (key := key) (tN v) i (by omega) e (by omega)
  exact ⟨i, hi, by omega, e, b⟩
theorem iv_tx {v : WV} (iv : IV v) : ∃ tn, tn ≤ 14 ∧ v 14 = nI tn ∧ tN v = tn ∧ ∀ i, i < tn → txOk v i := by
  obtain ⟨t, h1, h2, h3⟩ := iv.2.2.2.2.2
  exact ⟨t, h1, h2, by rw [tN, h2, nI_clamp (by omega)], h3⟩
section Fe
variable {Θ : Th} {d : Nat} {S : SS} {v : WV}
theorem s_X12_fee {Q : Int32 → HP → Prop} (hv : S 160 = v) (iv : IV v) (hK : TxK v) (hq : ∀ S', S' 160 = v → MF S S' → Q (feeR v) (lay Θ S')) : C Θ (d + 2) 0 0 yX12_fee cX12_fee 2 (some .int) [.ref (tb Θ + 159)] 183 (lay Θ S) (Qi Q) := by
  refine C_of rfl rfl (Nat.le_of_ble_eq_true rfl) ?_
  obtain ⟨tn, htn14, htn, htN, hok⟩ := iv_tx iv
  refine E_aload_n dX12_fee_0 rfl ?_
  refine E_ic (v := 1) dX12_fee_1 (by decide) ?_
  refine E_V1i vX12_93_12 dX12_fee_2 (Nat.le_of_ble_eq_true rfl) (by decide) (sh_159 _) (s_X12_counts hv htn htn14 ?_)
  refine E_istore_n dX12_fee_5 (by decide) ?_
  refine E_aload_n dX12_fee_6 rfl ?_
  refine L_get fX12_51 dX12_fee_7 (by decide) sh_159 rfl ?_
  refine E_ic (v := 0) dX12_fee_10 (by decide) ?_
  refine E_aload_n dX12_fee_11 rfl ?_
  refine L_get fX12_9 dX12_fee_12 (by decide) sh_159 rfl ?_
  refine E_bipush (v := 10) dX12_fee_15 (by decide) ?_
  refine L_iald (j := 10) dX12_fee_17 (by decide) sh_160 rfl (by decide) (by decide) ?_
  rw [hv]
  refine L_iast (j := 0) dX12_fee_18 (by decide) sh_173 rfl (by decide) (by decide) ?_
  refine E_aload_n dX12_fee_19 rfl ?_
  refine L_get fX12_51 dX12_fee_20 (by decide) sh_159 rfl ?_
  refine E_ic (v := 1) dX12_fee_23 (by decide) ?_
  refine E_aload_n dX12_fee_24 rfl ?_
  refine L_get fX12_9 dX12_fee_25 (by decide) sh_159 rfl ?_
  refine E_bipush (v := 11) dX12_fee_28 (by decide) ?_
  refine L_iald (j := 11) dX12_fee_30 (by decide) sh_160 rfl (by decide) (by decide) ?_
  rw [wr_ne (by decide), hv]
  refine L_iast (j := 1) dX12_fee_31 (by decide) sh_173 rfl (by decide) (by decide) ?_
  refine E_iload_n dX12_fee_32 rfl ?_
  refine E_if_ge dX12_fee_33 (fun c33 => ?_) (fun c33 => ?_)
  · obtain ⟨t, ht1, ht2, ht, hkey⟩ := law_t iv (i_lt c33)
    refine E_aload_n dX12_fee_46 rfl ?_
    refine E_iload_n dX12_fee_47 rfl ?_
    refine E_V1i vX12_97_12 dX12_fee_48 (Nat.le_of_ble_eq_true rfl) (by decide) (sh_159 _) (s_X12_worksOutF (v := v) (a := v 10) (b := v 11) (c := S 173 2) (by rw [wr_ne (by decide)]; rw [wr_ne (by decide)]; exact hv) (by rw [wr_at, pk_un (by decide), wr_at, pk_us]) (by rw [wr_at, pk_us]) (by rw [wr_at, pk_un (by decide), wr_at, pk_un (by decide)]) ht (by omega) (hok t (by omega)) (fun S48 h48 f48 => ?_))
    refine E_iret dX12_fee_51 rfl rfl ?_
    rw [feeR, if_neg (i_lt c33), ht, nI_clamp (by omega), ← ev_two (x := S 173 2) hK ht1 (by rw [hkey]; decide)] at hq
    exact hq S48 h48 ((MF.w3.tr MF.w3).tr f48)
  · refine E_aload_n dX12_fee_36 rfl ?_
    refine L_get fX12_9 dX12_fee_37 (by decide) sh_159 rfl ?_
    refine E_bipush (v := 10) dX12_fee_40 (by decide) ?_
    refine L_iald (j := 10) dX12_fee_42 (by decide) sh_160 rfl (by decide) (by decide) ?_
    rw [wr_ne (by decide), wr_ne (by decide), hv]
    refine E_goto dX12_fee_43 ?_
    refine E_iret dX12_fee_51 rfl rfl ?_
    rw [feeR, if_pos (i_nle c33)] at hq
    exact hq _ (by rw [wr_ne (by decide), wr_ne (by decide)]; exact hv) (MF.w3.tr MF.w3)
theorem s_X12_fine {Q : Int32 → HP → Prop} (hv : S 160 = v) (iv : IV v) (hK : TxK v) {x : Int32} (hq : ∀ S', S' 160 = v → MF S S' → Q (fineR v x) (lay Θ S')) : C Θ (d + 2) 0 0 yX12_fine cX12_fine 3 (some .int) [.ref (tb Θ + 159), .int x] 183 (lay Θ S) (Qi Q) := by
  refine C_of rfl rfl (Nat.le_of_ble_eq_true rfl) ?_
  obtain ⟨m, hm9, hm, hpa⟩ := iv.1
  have hmm : mN v = m := by rw [mN, hm, nI_clamp (by omega)]
  have hm1 : S 160 1 = nI m := by rw [hv]; exact hm
  obtain ⟨tn, htn14, htn, htN, hok⟩ := iv_tx iv
  refine E_aload_n dX12_fine_0 rfl ?_
  refine E_iload_n dX12_fine_1 rfl ?_
  refine E_V1i vX12_112_12 dX12_fine_2 (Nat.le_of_ble_eq_true rfl) (by decide) (sh_159 _) (s_X12_isOne hm1 hm9 (fun g1 => ?_) (fun g1 => ?_))
  · obtain ⟨p, hp, ep, ip⟩ := ix_some (by omega) g1
    refine E_if_ne dX12_fine_5 (fun _ => ?_) (fun c => absurd c (by decide))
    refine E_aload_n dX12_fine_11 rfl ?_
    refine E_ic (v := 2) dX12_fine_12 (by decide) ?_
    refine E_V1i vX12_93_12 dX12_fine_13 (Nat.le_of_ble_eq_true rfl) (by decide) (sh_159 _) (s_X12_counts hv htn htn14 ?_)
    refine E_istore_n dX12_fine_16 (by decide) ?_
    refine E_aload_n dX12_fine_17 rfl ?_
    refine L_get fX12_51 dX12_fine_18 (by decide) sh_159 rfl ?_
    refine E_ic (v := 0) dX12_fine_21 (by decide) ?_
    refine E_aload_n dX12_fine_22 rfl ?_
    refine E_iload_n dX12_fine_23 rfl ?_
    refine E_ic (v := 2) dX12_fine_24 (by decide) ?_
    refine E_V2i vX12_85_12 dX12_fine_25 (Nat.le_of_ble_eq_true rfl) (by decide) (sh_159 _) (s_X12_of (v := v) (hv) p 2 (17 + 9 * p) ep rfl (by omega) (by omega) ?_)
    refine L_iast (j := 0) dX12_fine_28 (by decide) sh_173 rfl (by decide) (by decide) ?_
    refine E_aload_n dX12_fine_29 rfl ?_
    refine L_get fX12_51 dX12_fine_30 (by decide) sh_159 rfl ?_
    refine E_ic (v := 1) dX12_fine_33 (by decide) ?_
    refine E_aload_n dX12_fine_34 rfl ?_
    refine E_iload_n dX12_fine_35 rfl ?_
    refine E_ic (v := 1) dX12_fine_36 (by decide) ?_
    refine E_V2i vX12_85_12 dX12_fine_37 (Nat.le_of_ble_eq_true rfl) (by decide) (sh_159 _) (s_X12_of (v := v) (by rw [wr_ne (by decide)]; exact hv) p 1 (16 + 9 * p) ep rfl (by omega) (by omega) ?_)
    refine L_iast (j := 1) dX12_fine_40 (by decide) sh_173 rfl (by decide) (by decide) ?_
    refine E_iload_n dX12_fine_41 rfl ?_
    refine E_if_ge dX12_fine_42 (fun c42 => ?_) (fun c42 => ?_)
    · obtain ⟨t, ht1, ht2, ht, hkey⟩ := law_t iv (i_lt c42)
      refine E_aload_n dX12_fine_54 rfl ?_
      refine E_iload_n dX12_fine_55 rfl ?_
      refine E_V1i vX12_97_12 dX12_fine_56 (Nat.le_of_ble_eq_true rfl) (by decide) (sh_159 _) (s_X12_worksOutF (v := v) (a := v (17 + 9 * p)) (b := v (16 + 9 * p)) (c := S 173 2) (by rw [wr_ne (by decide)]; rw [wr_ne (by decide)]; exact hv) (by rw [wr_at, pk_un (by decide), wr_at, pk_us]) (by rw [wr_at, pk_us]) (by rw [wr_at, pk_un (by decide), wr_at, pk_un (by decide)]) ht (by omega) (hok t (by omega)) (fun S56 h56 f56 => ?_))
      refine E_iret dX12_fine_59 rfl rfl ?_
      rw [fineR, hmm, ip, Option.elim, if_neg (i_lt c42), ht, nI_clamp (by omega), ← ev_two (x := S 173 2) hK ht1 (by rw [hkey]; decide)] at hq
      exact hq S56 h56 ((MF.w3.tr MF.w3).tr f56)
    · refine E_aload_n dX12_fine_45 rfl ?_
      refine E_iload_n dX12_fine_46 rfl ?_
      refine E_ic (v := 2) dX12_fine_47 (by decide) ?_
      refine E_V2i vX12_85_12 dX12_fine_48 (Nat.le_of_ble_eq_true rfl) (by decide) (sh_159 _) (s_X12_of (v := v) (by rw [wr_ne (by decide)]; rw [wr_ne (by decide)]; exact hv) p 2 (17 + 9 * p) ep rfl (by omega) (by omega) ?_)
      refine E_goto dX12_fine_51 ?_
      refine E_iret dX12_fine_59 rfl rfl ?_
      rw [fineR, hmm, ip, Option.elim, if_pos (i_nle c42)] at hq
      exact hq _ (by rw [wr_ne (by decide), wr_ne (by decide)]; exact hv) (MF.w3.tr MF.w3)
  · have ip := ix_none (by omega) g1
    refine E_if_ne dX12_fine_5 (fun c => absurd rfl c) (fun _ => ?_)
    refine E_ldc dX12_fine_8 kX12_107 ?_
    refine E_iret dX12_fine_10 rfl rfl ?_
    rw [fineR, hmm, ip] at hq
    exact hq S hv MF.rf
theorem s_X11_fee {Q : Int32 → HP → Prop} (hR : WRep S 20 v) (iv : IV v) (hT : TRep S v) (hq : ∀ S', WF 64 S S' → Q (feeR v) (lay Θ S')) : C Θ (d + 2) 0 0 yX11_fee cX11_fee 3 (some .int) [.ref (tb Θ + 0)] 183 (lay Θ S) (Qi Q) := by
  refine C_of rfl rfl (Nat.le_of_ble_eq_true rfl) ?_
  obtain ⟨m, hm9, hm, hpa⟩ := iv.1
  have hmm : mN v = m := by rw [mN, hm, nI_clamp (by omega)]
  obtain ⟨tn, htn14, htn, htN, hok⟩ := iv_tx iv
  have hw : isW 20 := isW20
  by_cases hl0 : lawF v 1 < 0
  · refine E_aload_n dX11_fee_0 rfl ?_
    refine L_get fX11_83 dX11_fee_1 (by decide) sh_0 rfl ?_
    refine L_get fX11_249 dX11_fee_4 (by have := (isW20).lt; omega) (sh_W isW20) rfl ?_
    refine E_ic (v := 1) dX11_fee_7 (by decide) ?_
    refine L_aaldN (j := 1) dX11_fee_8 (by decide) (sh_Wl isW20) rfl rfl (by decide) (by decide) (by rw [hR.2.2.1 1 (by decide), tref, if_pos (show lawF v (nI 1) < 0 from hl0)]) ?_
    refine E_astore_nN dX11_fee_9 (by decide) ?_
    refine E_aload_n dX11_fee_10 rfl ?_
    refine L_get fX11_83 dX11_fee_11 (by decide) sh_0 rfl ?_
    refine L_get fX11_205 dX11_fee_14 (by have := (isW20).lt; omega) (sh_W isW20) rfl ?_
    refine E_ic (v := 0) dX11_fee_17 (by decide) ?_
    refine T_get (j := 0) hR hw dX11_fee_18 rfl (by decide) ?_
    refine E_istore_n dX11_fee_19 (by decide) ?_
    refine E_aload_nN dX11_fee_20 rfl ?_
    refine E_nonnullN dX11_fee_21 ?_
    refine E_iload_n dX11_fee_24 rfl ?_
    refine E_goto dX11_fee_25 ?_
    refine E_iret dX11_fee_43 rfl rfl ?_
    rw [feeR, if_pos hl0] at hq
    exact hq S WF.rf
  · obtain ⟨t, ht1, ht2, ht, hkey⟩ := law_t iv hl0
    refine E_aload_n dX11_fee_0 rfl ?_
    refine L_get fX11_83 dX11_fee_1 (by decide) sh_0 rfl ?_
    refine L_get fX11_249 dX11_fee_4 (by have := (isW20).lt; omega) (sh_W isW20) rfl ?_
    refine E_ic (v := 1) dX11_fee_7 (by decide) ?_
    refine L_aald (j := 1) (q := tb Θ + (86 + 3 * t)) dX11_fee_8 (by decide) (sh_Wl isW20) rfl rfl (by decide) (by decide) (by rw [hR.2.2.1 1 (by decide), show lawF v (nI 1) = nI t from ht, tref, if_neg (nI_pos (by omega)), nI_clamp (by omega)]) ?_
    refine E_astore_n dX11_fee_9 (by decide) ?_
    refine E_aload_n dX11_fee_10 rfl ?_
    refine L_get fX11_83 dX11_fee_11 (by decide) sh_0 rfl ?_
    refine L_get fX11_205 dX11_fee_14 (by have := (isW20).lt; omega) (sh_W isW20) rfl ?_
    refine E_ic (v := 0) dX11_fee_17 (by decide) ?_
    refine T_get (j := 0) hR hw dX11_fee_18 rfl (by decide) ?_
    refine E_istore_n dX11_fee_19 (by decide) ?_
    refine E_aload_n dX11_fee_20 rfl ?_
    refine E_nonnull dX11_fee_21 ?_
    refine E_aload_n dX11_fee_28 rfl ?_
    refine E_iload_n dX11_fee_29 rfl ?_
    refine E_aload_n dX11_fee_30 rfl ?_
    refine L_get fX11_83 dX11_fee_31 (by decide) sh_0 rfl ?_
    refine L_get fX11_205 dX11_fee_34 (by have := (isW20).lt; omega) (sh_W isW20) rfl ?_
    refine E_ic (v := 1) dX11_fee_37 (by decide) ?_
    refine T_get (j := 1) hR hw dX11_fee_38 rfl (by decide) ?_
    refine E_ic (v := 0) dX11_fee_39 (by decide) ?_
    refine E_V3i vX11_252_8 dX11_fee_40 (Nat.le_of_ble_eq_true rfl) (by have := ((isT_mk (t := t) (by omega))).lt; omega) ((sh_T (isT_mk (t := t) (by omega))) _) (s_X8_valueOf (t := t) (by omega) (hok t (by omega)) (hT t ht1).2.2.1 (hT t ht1).2.2.2 (fun S40 f40 => ?_))
    refine E_iret dX11_fee_43 rfl rfl ?_
    rw [feeR, if_neg hl0, ht, nI_clamp (by omega)] at hq
    exact hq S40 (f40.wf (by omega))
theorem s_X11_fine {Q : Int32 → HP → Prop} (hR : WRep S 20 v) (iv : IV v) (hT : TRep S v) {x : Int32} (hq : ∀ S', WF 64 S S' → Q (fineR v x) (lay Θ S')) : C Θ (d + 2) 0 0 yX11_fine cX11_fine 4 (some .int) [.ref (tb Θ + 0), .int x] 183 (lay Θ S) (Qi Q) := by
  refine C_of rfl rfl (Nat.le_of_ble_eq_true rfl) ?_
  obtain ⟨m, hm9, hm, hpa⟩ := iv.1
  have hmm : mN v = m := by rw [mN, hm, nI_clamp (by omega)]
  have hm1 : S 20 1 = nI m := (hR.1 (1, 1) (by decide)).trans hm
  obtain ⟨tn, htn14, htn, htN, hok⟩ := iv_tx iv
  have hw : isW 20 := isW20
  by_cases hl0 : lawF v 2 < 0
  · refine E_aload_n dX11_fine_0 rfl ?_
    refine E_iload_n dX11_fine_1 rfl ?_
    refine E_V1i vX11_118_11 dX11_fine_2 (Nat.le_of_ble_eq_true rfl) (by decide) (sh_0 _) (s_X11_isOne hm1 hm9 (fun g1 => ?_) (fun g1 => ?_))
    · obtain ⟨p, hp, ep, ip⟩ := ix_some (by omega) g1
      refine E_if_ne dX11_fine_5 (fun _ => ?_) (fun c => absurd c (by decide))
      refine E_aload_n dX11_fine_11 rfl ?_
      refine L_get fX11_83 dX11_fine_12 (by decide) sh_0 rfl ?_
      refine L_get fX11_249 dX11_fine_15 (by have := (isW20).lt; omega) (sh_W isW20) rfl ?_
      refine E_ic (v := 2) dX11_fine_18 (by decide) ?_
      refine L_aaldN (j := 2) dX11_fine_19 (by decide) (sh_Wl isW20) rfl rfl (by decide) (by decide) (by rw [hR.2.2.1 2 (by decide), tref, if_pos (show lawF v (nI 2) < 0 from hl0)]) ?_
      refine E_astore_nN dX11_fine_20 (by decide) ?_
      refine E_aload_n dX11_fine_21 rfl ?_
      refine L_get fX11_83 dX11_fine_22 (by decide) sh_0 rfl ?_
      refine L_get fX11_111 dX11_fine_25 (by have := (isW20).lt; omega) (sh_W isW20) rfl ?_
      refine E_iload_n dX11_fine_28 rfl ?_
      refine L_aald (j := p) dX11_fine_29 (by have := (isW20).lt; omega) (sh_Wc isW20) rfl ep (by omega) (by decide) (if_pos (by omega)) ?_
      refine E_astore_n dX11_fine_30 (by decide) ?_
      refine E_aload_nN dX11_fine_31 rfl ?_
      refine E_nonnullN dX11_fine_32 ?_
      refine E_aload_n dX11_fine_35 rfl ?_
      refine P_temp (p := p) hR hw hmm hm9 hp fX11_132 dX11_fine_36 ?_
      refine E_goto dX11_fine_39 ?_
      refine E_iret dX11_fine_55 rfl rfl ?_
      rw [fineR, hmm, ip, Option.elim, if_pos hl0] at hq
      exact hq S WF.rf
    · have ip := ix_none (by omega) g1
      refine E_if_ne dX11_fine_5 (fun c => absurd rfl c) (fun _ => ?_)
      refine E_ldc dX11_fine_8 kX11_105 ?_
      refine E_iret dX11_fine_10 rfl rfl ?_
      rw [fineR, hmm, ip] at hq
      exact hq S WF.rf
  · obtain ⟨t, ht1, ht2, ht, hkey⟩ := law_t iv hl0
    refine E_aload_n dX11_fine_0 rfl ?_
    refine E_iload_n dX11_fine_1 rfl ?_
    refine E_V1i vX11_118_11 dX11_fine_2 (Nat.le_of_ble_eq_true rfl) (by decide) (sh_0 _) (s_X11_isOne hm1 hm9 (fun g1 => ?_) (fun g1 => ?_))
    · obtain ⟨p, hp, ep, ip⟩ := ix_some (by omega) g1
      refine E_if_ne dX11_fine_5 (fun _ => ?_) (fun c => absurd c (by decide))
      refine E_aload_n dX11_fine_11 rfl ?_
      refine L_get fX11_83 dX11_fine_12 (by decide) sh_0 rfl ?_
      refine L_get fX11_249 dX11_fine_15 (by have := (isW20).lt; omega) (sh_W isW20) rfl ?_
      refine E_ic (v := 2) dX11_fine_18 (by decide) ?_
      refine L_aald (j := 2) (q := tb Θ + (86 + 3 * t)) dX11_fine_19 (by decide) (sh_Wl isW20) rfl rfl (by decide) (by decide) (by rw [hR.2.2.1 2 (by decide), show lawF v (nI 2) = nI t from ht, tref, if_neg (nI_pos (by omega)), nI_clamp (by omega)]) ?_
      refine E_astore_n dX11_fine_20 (by decide) ?_
      refine E_aload_n dX11_fine_21 rfl ?_
      refine L_get fX11_83 dX11_fine_22 (by decide) sh_0 rfl ?_
      refine L_get fX11_111 dX11_fine_25 (by have := (isW20).lt; omega) (sh_W isW20) rfl ?_
      refine E_iload_n dX11_fine_28 rfl ?_
      refine L_aald (j := p) dX11_fine_29 (by have := (isW20).lt; omega) (sh_Wc isW20) rfl ep (by omega) (by decide) (if_pos (by omega)) ?_
      refine E_astore_n dX11_fine_30 (by decide) ?_
      refine E_aload_n dX11_fine_31 rfl ?_
      refine E_nonnull dX11_fine_32 ?_
      refine E_aload_n dX11_fine_42 rfl ?_
      refine E_aload_n dX11_fine_43 rfl ?_
      refine P_temp (p := p) hR hw hmm hm9 hp fX11_132 dX11_fine_44 ?_
      refine E_aload_n dX11_fine_47 rfl ?_
      refine P_bank (p := p) hR hw hmm hm9 hp fX11_129 dX11_fine_48 ?_
      refine E_ic (v := 0) dX11_fine_51 (by decide) ?_
      refine E_V3i vX11_252_8 dX11_fine_52 (Nat.le_of_ble_eq_true rfl) (by have := ((isT_mk (t := t) (by omega))).lt; omega) ((sh_T (isT_mk (t := t) (by omega))) _) (s_X8_valueOf (t := t) (by omega) (hok t (by omega)) (hT t ht1).2.2.1 (hT t ht1).2.2.2 (fun S52 f52 => ?_))
      refine E_iret dX11_fine_55 rfl rfl ?_
      rw [fineR, hmm, ip, Option.elim, if_neg hl0, ht, nI_clamp (by omega)] at hq
      exact hq S52 (f52.wf (by omega))
    · have ip := ix_none (by omega) g1
      refine E_if_ne dX11_fine_5 (fun c => absurd rfl c) (fun _ => ?_)
      refine E_ldc dX11_fine_8 kX11_105 ?_
      refine E_iret dX11_fine_10 rfl rfl ?_
      rw [fineR, hmm, ip] at hq
      exact hq S WF.rf
theorem s_X12_textTold {Q : Int32 → HP → Prop} (hv : S 160 = v) (iv : IV v) {x z : Int32} (hq : Q (textToldR v x z) (lay Θ S)) : C Θ (d + 1) 0 0 yX12_textTold cX12_textTold 3 (some .int) [.ref (tb Θ + 159), .int x, .int z] 183 (lay Θ S) (Qi Q) := by
  refine C_of rfl rfl (Nat.le_of_ble_eq_true rfl) ?_
  obtain ⟨tn, htn14, htn, htN, hok⟩ := iv_tx iv
  refine E_iload_n dX12_textTold_0 rfl ?_
  refine E_ic (v := 0) dX12_textTold_1 (by decide) ?_
  refine E_aload_n dX12_textTold_2 rfl ?_
  refine L_get fX12_9 dX12_textTold_3 (by decide) sh_159 rfl ?_
  refine E_bipush (v := 14) dX12_textTold_6 (by decide) ?_
  refine N_iald (j := 14) dX12_textTold_8 rfl (by decide) hv ?_
  rw [htn]
  refine E_ic (v := 1) dX12_textTold_9 (by decide) ?_
  refine E_isub dX12_textTold_10 ?_
  refine E_S3i sX12_81 dX12_textTold_11 (Nat.le_of_ble_eq_true rfl) (s_X12_in (fun ga gb => ?_) (fun gp => ?_))
  · obtain ⟨t, ht, et, it⟩ := ix_some (by omega) (m1_leN (by omega) ga gb)
    refine E_if_eq dX12_textTold_14 (fun c => absurd c (by decide)) (fun _ => ?_)
    refine E_iload_n dX12_textTold_17 rfl ?_
    refine E_ic (v := 0) dX12_textTold_18 (by decide) ?_
    refine E_ic (v := 1) dX12_textTold_19 (by decide) ?_
    refine E_S3i sX12_81 dX12_textTold_20 (Nat.le_of_ble_eq_true rfl) (s_X12_in (fun g2a g2b => ?_) (fun g2 => ?_))
    · refine E_if_ne dX12_textTold_23 (fun _ => ?_) (fun c => absurd c (by decide))
      refine E_iload_n dX12_textTold_29 rfl ?_
      refine E_if_ne dX12_textTold_30 (fun c30 => ?_) (fun c30 => ?_)
      · refine E_aload_n dX12_textTold_51 rfl ?_
        refine L_get fX12_9 dX12_textTold_52 (by decide) sh_159 rfl ?_
        refine E_bipush (v := 96) dX12_textTold_55 (by decide) ?_
        refine E_ic (v := 2) dX12_textTold_57 (by decide) ?_
        refine E_iload_n dX12_textTold_58 rfl ?_
        refine E_imul dX12_textTold_59 ?_
        refine E_iadd dX12_textTold_60 ?_
        refine E_ic (v := 1) dX12_textTold_61 (by decide) ?_
        refine E_iadd dX12_textTold_62 ?_
        refine N_iald (j := 97 + 2 * t) dX12_textTold_63 (by rw [et, txI t, nI_1, show 96 + 2 * t + 1 = 97 + 2 * t by omega]) (by omega) hv ?_
        refine E_iret dX12_textTold_64 rfl rfl ?_
        rw [textToldR, htN, it, Option.elim, if_pos ⟨g2a, g2b⟩, if_neg c30] at hq
        exact hq
      · refine E_aload_n dX12_textTold_33 rfl ?_
        refine L_get fX12_9 dX12_textTold_34 (by decide) sh_159 rfl ?_
        refine E_bipush (v := 96) dX12_textTold_37 (by decide) ?_
        refine E_ic (v := 2) dX12_textTold_39 (by decide) ?_
        refine E_iload_n dX12_textTold_40 rfl ?_
        refine E_imul dX12_textTold_41 ?_
        refine E_iadd dX12_textTold_42 ?_
        refine N_iald (j := 96 + 2 * t) dX12_textTold_43 (by rw [et]; exact txI t) (by omega) hv ?_
        refine E_sipush (v := 1000) dX12_textTold_44 (by decide) ?_
        refine E_idiv dX12_textTold_47 (by decide) ?_
        refine E_goto dX12_textTold_48 ?_
        refine E_iret dX12_textTold_64 rfl rfl ?_
        rw [textToldR, htN, it, Option.elim, if_pos ⟨g2a, g2b⟩, if_pos c30] at hq
        exact hq
    · refine E_if_ne dX12_textTold_23 (fun c => absurd rfl c) (fun _ => ?_)
      refine E_ldc dX12_textTold_26 kX12_107 ?_
      refine E_iret dX12_textTold_28 rfl rfl ?_
      rw [textToldR, htN, it, Option.elim, if_neg g2] at hq
      exact hq
  · have it := ix_none (by omega) (fun hh => gp (m1_backN (by omega) hh))
    refine E_if_eq dX12_textTold_14 (fun _ => ?_) (fun c => absurd (by decide) c)
    refine E_ldc dX12_textTold_26 kX12_107 ?_
    refine E_iret dX12_textTold_28 rfl rfl ?_
    rw [textToldR, htN, it] at hq
    exact hq
theorem s_X11_textTold {Q : Int32 → HP → Prop} (hR : WRep S 20 v) (iv : IV v) (hT : TRep S v) {x z : Int32} (hq : Q (textToldR v x z) (lay Θ S)) : C Θ (d + 1) 0 0 yX11_textTold cX11_textTold 3 (some .int) [.ref (tb Θ + 0), .int x, .int z] 183 (lay Θ S) (Qi Q) := by
  refine C_of rfl rfl (Nat.le_of_ble_eq_true rfl) ?_
  have hw : isW 20 := isW20
  obtain ⟨tn, htn14, htn, htN, hok⟩ := iv_tx iv
  refine E_iload_n dX11_textTold_0 rfl ?_
  refine E_if_lt dX11_textTold_1 (fun c1 => ?_) (fun c1 => ?_)
  · refine E_ldc dX11_textTold_24 kX11_105 ?_
    refine E_iret dX11_textTold_26 rfl rfl ?_
    have it := ix_none (n := tn) (by omega) (fun ⟨i, hi, e⟩ => ix_neg (n := tn) c1 (by omega) e)
    rw [textToldR, htN, it] at hq
    exact hq
  · refine E_iload_n dX11_textTold_4 rfl ?_
    refine E_aload_n dX11_textTold_5 rfl ?_
    refine L_get fX11_83 dX11_textTold_6 (by decide) sh_0 rfl ?_
    refine W_get (j := 13) (i := 14) hR hw (by decide) fX11_261 dX11_textTold_9 ?_
    rw [htn]
    refine E_icmp_ge dX11_textTold_12 (fun c12 => ?_) (fun c12 => ?_)
    · refine E_ldc dX11_textTold_24 kX11_105 ?_
      refine E_iret dX11_textTold_26 rfl rfl ?_
      have it := ix_none (n := tn) (by omega) (fun ⟨i, hi, e⟩ => ix_big c12 hi (by omega) e)
      rw [textToldR, htN, it] at hq
      exact hq
    · obtain ⟨t, ht, et, it⟩ := ix_some (by omega) (ix_of c1 (i_nle c12) (by omega))
      refine E_iload_n dX11_textTold_15 rfl ?_
      refine E_ic (v := 0) dX11_textTold_16 (by decide) ?_
      refine E_ic (v := 1) dX11_textTold_17 (by decide) ?_
      refine E_S3i sX11_145 dX11_textTold_18 (Nat.le_of_ble_eq_true rfl) (s_X11_within (fun g2a g2b => ?_) (fun g2 => ?_))
      · refine E_if_ne dX11_textTold_21 (fun _ => ?_) (fun c => absurd c (by decide))
        refine E_iload_n dX11_textTold_27 rfl ?_
        refine E_if_ne dX11_textTold_28 (fun c28 => ?_) (fun c28 => ?_)
        · refine E_aload_n dX11_textTold_43 rfl ?_
          refine L_get fX11_17 dX11_textTold_44 (by decide) sh_0 rfl ?_
          refine E_iload_n dX11_textTold_47 rfl ?_
          refine L_aald (j := t) dX11_textTold_48 (by decide) sh_2 rfl et (by omega) (by decide) (if_pos (by omega)) ?_
          refine L_get fX11_277 dX11_textTold_49 (by have := ((isT_mk (t := t) (by omega))).lt; omega) (sh_T (isT_mk (t := t) (by omega))) rfl ?_
          rw [(hT t (by omega)).2.1]
          refine E_iret dX11_textTold_52 rfl rfl ?_
          rw [textToldR, htN, it, Option.elim, if_pos ⟨g2a, g2b⟩, if_neg c28] at hq
          exact hq
        · refine E_aload_n dX11_textTold_31 rfl ?_
          refine L_get fX11_17 dX11_textTold_32 (by decide) sh_0 rfl ?_
          refine E_iload_n dX11_textTold_35 rfl ?_
          refine L_aald (j := t) dX11_textTold_36 (by decide) sh_2 rfl et (by omega) (by decide) (if_pos (by omega)) ?_
          refine L_get fX11_271 dX11_textTold_37 (by have := ((isT_mk (t := t) (by omega))).lt; omega) (sh_T (isT_mk (t := t) (by omega))) rfl ?_
          rw [(hT t (by omega)).1]
          refine E_goto dX11_textTold_40 ?_
          refine E_iret dX11_textTold_52 rfl rfl ?_
          rw [textToldR, htN, it, Option.elim, if_pos ⟨g2a, g2b⟩, if_pos c28] at hq
          exact hq
      · refine E_if_ne dX11_textTold_21 (fun c => absurd rfl c) (fun _ => ?_)
        refine E_ldc dX11_textTold_24 kX11_105 ?_
        refine E_iret dX11_textTold_26 rfl rfl ?_
        rw [textToldR, htN, it, Option.elim, if_neg g2] at hq
        exact hq
theorem s_X12_why {Q : Int32 → HP → Prop} (hv : S 160 = v) (iv : IV v) {x : Int32} (hq : Q (whyR v x) (lay Θ S)) : C Θ (d + 1) 0 0 yX12_why cX12_why 3 (some .int) [.ref (tb Θ + 159), .int x] 183 (lay Θ S) (Qi Q) := by
  refine C_of rfl rfl (Nat.le_of_ble_eq_true rfl) ?_
  obtain ⟨tn, htn14, htn, htN, hok⟩ := iv_tx iv
  refine E_iload_n dX12_why_0 rfl ?_
  refine E_ic (v := 0) dX12_why_1 (by decide) ?_
  refine E_ic (v := 2) dX12_why_2 (by decide) ?_
  refine E_S3i sX12_81 dX12_why_3 (Nat.le_of_ble_eq_true rfl) (s_X12_in (fun g1a g1b => ?_) (fun g1 => ?_))
  · refine E_if_ne dX12_why_6 (fun _ => ?_) (fun c => absurd c (by decide))
    refine E_aload_n dX12_why_12 rfl ?_
    refine E_iload_n dX12_why_13 rfl ?_
    refine E_V1i vX12_93_12 dX12_why_14 (Nat.le_of_ble_eq_true rfl) (by decide) (sh_159 _) (s_X12_counts hv htn htn14 ?_)
    refine E_istore_n dX12_why_17 (by decide) ?_
    refine E_iload_n dX12_why_18 rfl ?_
    refine E_if_ge dX12_why_19 (fun c19 => ?_) (fun c19 => ?_)
    · refine E_iload_n dX12_why_27 rfl ?_
      refine E_iret dX12_why_28 rfl rfl ?_
      rw [whyR, if_pos ⟨g1a, g1b⟩, if_neg (i_lt c19)] at hq
      exact hq
    · refine E_ldc dX12_why_22 kX12_136 ?_
      refine E_goto dX12_why_24 ?_
      refine E_iret dX12_why_28 rfl rfl ?_
      rw [whyR, if_pos ⟨g1a, g1b⟩, if_pos (i_nle c19)] at hq
      exact hq
  · refine E_if_ne dX12_why_6 (fun c => absurd rfl c) (fun _ => ?_)
    refine E_ldc dX12_why_9 kX12_107 ?_
    refine E_iret dX12_why_11 rfl rfl ?_
    rw [whyR, if_neg g1] at hq
    exact hq
theorem s_X11_why {Q : Int32 → HP → Prop} (hR : WRep S 20 v) (iv : IV v) (hN : ∀ t, t < 15 → S (86 + 3 * t) 0 = nI t) {x : Int32} (hq : Q (whyR v x) (lay Θ S)) : C Θ (d + 1) 0 0 yX11_why cX11_why 3 (some .int) [.ref (tb Θ + 0), .int x] 183 (lay Θ S) (Qi Q) := by
  refine C_of rfl rfl (Nat.le_of_ble_eq_true rfl) ?_
  have hw : isW 20 := isW20
  refine E_iload_n dX11_why_0 rfl ?_
  refine E_ic (v := 0) dX11_why_1 (by decide) ?_
  refine E_ic (v := 2) dX11_why_2 (by decide) ?_
  refine E_S3i sX11_145 dX11_why_3 (Nat.le_of_ble_eq_true rfl) (s_X11_within (fun g1a g1b => ?_) (fun g1 => ?_))
  · refine E_if_ne dX11_why_6 (fun _ => ?_) (fun c => absurd c (by decide))
    refine E_aload_n dX11_why_12 rfl ?_
    refine L_get fX11_83 dX11_why_13 (by decide) sh_0 rfl ?_
    refine L_get fX11_249 dX11_why_16 (by have := (isW20).lt; omega) (sh_W isW20) rfl ?_
    refine E_iload_n dX11_why_19 rfl ?_
    obtain ⟨k, hk, ek⟩ := isIx_le (n := 2) (by decide) g1a g1b
    by_cases hl0 : lawF v x < 0
    · refine L_aaldN (j := k) dX11_why_20 (by decide) (sh_Wl isW20) rfl ek (by omega) (by decide) (by rw [hR.2.2.1 k (by omega), ← ek, tref, if_pos hl0]) ?_
      refine E_astore_nN dX11_why_21 (by decide) ?_
      refine E_aload_nN dX11_why_22 rfl ?_
      refine E_nonnullN dX11_why_23 ?_
      refine E_ldc dX11_why_26 kX11_181 ?_
      refine E_goto dX11_why_28 ?_
      refine E_iret dX11_why_35 rfl rfl ?_
      rw [whyR, if_pos ⟨g1a, g1b⟩, if_pos hl0] at hq
      exact hq
    · obtain ⟨t, ht1, ht2, ht, hkey⟩ := law_t iv hl0
      refine L_aald (j := k) (q := tb Θ + (86 + 3 * t)) dX11_why_20 (by decide) (sh_Wl isW20) rfl ek (by omega) (by decide) (by rw [hR.2.2.1 k (by omega), ← ek, ht, tref, if_neg (nI_pos (by omega)), nI_clamp (by omega)]) ?_
      refine E_astore_n dX11_why_21 (by decide) ?_
      refine E_aload_n dX11_why_22 rfl ?_
      refine E_nonnull dX11_why_23 ?_
      refine E_aload_n dX11_why_31 rfl ?_
      refine L_get fX11_274 dX11_why_32 (by have := ((isT_mk (t := t) (by omega))).lt; omega) (sh_T (isT_mk (t := t) (by omega))) rfl ?_
      rw [hN t (by omega)]
      refine E_iret dX11_why_35 rfl rfl ?_
      rw [whyR, if_pos ⟨g1a, g1b⟩, if_neg hl0, ht] at hq
      exact hq
  · refine E_if_ne dX11_why_6 (fun c => absurd rfl c) (fun _ => ?_)
    refine E_ldc dX11_why_9 kX11_105 ?_
    refine E_iret dX11_why_11 rfl rfl ?_
    rw [whyR, if_neg g1] at hq
    exact hq
def trimR (n : Nat) (x : Int32) : Int32 × Nat := (ix x (n + 1)).elim (bad, n) fun k => (x, k)
theorem s_X12_trim {Q : Int32 → HP → Prop} {n : Nat} (hn : S 159 8 = nI n) (h96 : n ≤ 96) {x : Int32} (hq : ∀ S', S' 159 8 = nI (trimR n x).2 → (∀ j, j ≠ 8 → S' 159 j = S 159 j) → (∀ k, k ≠ 159 → S' k = S k) → Q (trimR n x).1 (lay Θ S')) : C Θ (d + 1) 0 0 yX12_trim cX12_trim 2 (some .int) [.ref (tb Θ + 159), .int x] 183 (lay Θ S) (Qi Q) := by
  refine C_of rfl rfl (Nat.le_of_ble_eq_true rfl) ?_
  refine E_iload_n dX12_trim_0 rfl ?_
  refine E_ic (v := 0) dX12_trim_1 (by decide) ?_
  refine E_aload_n dX12_trim_2 rfl ?_
  refine L_get fX12_206 dX12_trim_3 (by decide) sh_159 rfl ?_
  rw [hn]
  refine E_S3i sX12_81 dX12_trim_6 (Nat.le_of_ble_eq_true rfl) (s_X12_in (fun ga gb => ?_) (fun gp => ?_))
  · obtain ⟨k, hk, ek, ik⟩ := ix_some (by omega) (isIx_le (by omega) ga gb)
    refine E_if_ne dX12_trim_9 (fun _ => ?_) (fun c => absurd c (by decide))
    refine E_aload_n dX12_trim_15 rfl ?_
    refine E_iload_n dX12_trim_16 rfl ?_
    refine L_puti fX12_206 dX12_trim_17 (by decide) sh_159 (Nat.le_of_ble_eq_true rfl) rfl ?_
    refine E_iload_n dX12_trim_20 rfl ?_
    refine E_iret dX12_trim_21 rfl rfl ?_
    rw [trimR, ik, Option.elim] at hq
    exact hq _ (by rw [wr_at, pk_us]; exact ek) (fun j hj => by rw [wr_at, pk_un hj]) (fun k hk => wr_ne hk)
  · have ik := ix_none (n := n + 1) (by omega) (fun hh => gp (isIx_back (by omega) hh))
    refine E_if_ne dX12_trim_9 (fun c => absurd rfl c) (fun _ => ?_)
    refine E_ldc dX12_trim_12 kX12_107 ?_
    refine E_iret dX12_trim_14 rfl rfl ?_
    rw [trimR, ik] at hq
    exact hq S hn (fun _ _ => rfl) (fun _ _ => rfl)
theorem s_X11_trim {Q : Int32 → HP → Prop} {n : Nat} (hn : S 3 1 = nI n) (h96 : n ≤ 96) {x : Int32} (hq : ∀ S', S' 3 1 = nI (trimR n x).2 → (∀ j, j ≠ 1 → S' 3 j = S 3 j) → (∀ k, k ≠ 3 → S' k = S k) → Q (trimR n x).1 (lay Θ S')) : C Θ (d + 1) 0 0 yX11_trim cX11_trim 2 (some .int) [.ref (tb Θ + 0), .int x] 183 (lay Θ S) (Qi Q) := by
  refine C_of rfl rfl (Nat.le_of_ble_eq_true rfl) ?_
  refine E_iload_n dX11_trim_0 rfl ?_
  refine E_ic (v := 0) dX11_trim_1 (by decide) ?_
  refine E_aload_n dX11_trim_2 rfl ?_
  refine L_get fX11_24 dX11_trim_3 (by decide) sh_0 rfl ?_
  refine L_get fX11_255 dX11_trim_6 (by decide) sh_3 rfl ?_
  rw [hn]
  refine E_S3i sX11_145 dX11_trim_9 (Nat.le_of_ble_eq_true rfl) (s_X11_within (fun ga gb => ?_) (fun gp => ?_))
  · obtain ⟨k, hk, ek, ik⟩ := ix_some (by omega) (isIx_le (by omega) ga gb)
    refine E_if_ne dX11_trim_12 (fun _ => ?_) (fun c => absurd c (by decide))
    refine E_aload_n dX11_trim_18 rfl ?_
    refine L_get fX11_24 dX11_trim_19 (by decide) sh_0 rfl ?_
    refine E_iload_n dX11_trim_22 rfl ?_
    refine L_puti fX11_255 dX11_trim_23 (by decide) sh_3 (Nat.le_of_ble_eq_true rfl) rfl ?_
    refine E_iload_n dX11_trim_26 rfl ?_
    refine E_iret dX11_trim_27 rfl rfl ?_
    rw [trimR, ik, Option.elim] at hq
    exact hq _ (by rw [wr_at, pk_us]; exact ek) (fun j hj => by rw [wr_at, pk_un hj]) (fun k hk => wr_ne hk)
  · have ik := ix_none (n := n + 1) (by omega) (fun hh => gp (isIx_back (by omega) hh))
    refine E_if_ne dX11_trim_12 (fun c => absurd rfl c) (fun _ => ?_)
    refine E_ldc dX11_trim_15 kX11_105 ?_
    refine E_iret dX11_trim_17 rfl rfl ?_
    rw [trimR, ik] at hq
    exact hq S hn (fun _ _ => rfl) (fun _ _ => rfl)
end Fe
