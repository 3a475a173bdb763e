/-! lands and minutes, on both sides -/
def laF (v : WV) (p : Nat) : Nat → Nat → Int32
  | 0, _ => nobody
  | f + 1, i => if v (16 + 9 * p) = 1 then nI i else laF (miV v) p f (i + 1)
theorem laF_miss {v : WV} {p f i : Nat} (h : ¬ v (16 + 9 * p) = 1) : laF v p (f + 1) i = laF (miV v) p f (i + 1) := by rw [laF, if_neg h]
theorem laF_hit {v : WV} {p f i : Nat} (h : v (16 + 9 * p) = 1) : laF v p (f + 1) i = nI i := by rw [laF, if_pos h]
def landsR (v : WV) (x : Int32) : Int32 := (ix x (mN v)).elim bad fun p => laF v p 201 0
def minutesR (v : WV) (x : Int32) : Int32 × WV := if 1 ≤ x ∧ x ≤ 100 then (miN v (clampF (9999 - v 2) 0 x).toNatClampNeg 10 - v 10, miN v (clampF (9999 - v 2) 0 x).toNatClampNeg) else (bad, v)
theorem cl_min {k n : Nat} (hk : k ≤ 9999) (hn : n ≤ 100) : clampF (9999 - nI k) 0 (nI n) = nI (min (9999 - k) n) := by
  rw [show (9999 : Int32) - nI k = nI (9999 - k) from pk_sub (a := 9999) hk, clampF, if_neg (nI_pos (by omega))]
  by_cases h : n < 9999 - k
  · rw [if_pos (nI_lt h (by omega)), Nat.min_eq_right (by omega)]
  · rw [if_neg (i_lt (nI_le (by omega) (by omega))), Nat.min_eq_left (by omega)]
theorem miN_2 {v : WV} {k : Nat} (iv : IV v) (h : v 2 = nI k) : ∀ n, miN v n 2 = nI (k + n)
  | 0 => h
  | n + 1 => by
    rw [miN, mi_2 (IV_miN iv n), miN_2 iv h n]
    exact nI_add (k + n) 1
section La
variable {Θ : Th} {d : Nat} {S : SS} {v : WV}
theorem l_X12_lands {Q : Int32 → HP → Prop} {p : Nat} (hp9 : p < 9) : ∀ (f : Nat) (c0 : WV) (S : SS) (x2 : Int32) (i : Nat), x2 = nI i → i + f = 201 → S 160 = c0 → IV c0 → (∀ k, k < 1468 → S 163 k = v k) → (∀ k, 1468 ≤ k → c0 k = v k) → (∀ S', S' 160 = v → MH S S' → Q (laF c0 p f i) (lay Θ S')) → E Θ (d + 5) 0 0 yX12_lands cX12_lands 3 (some .int) 0 0 183 (lay Θ S) 17 [(2, .int x2), (1, .int (nI p)), (0, .ref (tb Θ + 159))] [] (Qi Q) := by
  intro f
  induction f with
  | zero =>
    intro c0 S x2 i hx2 hi hv iv hB hH hq
    refine E_iload_n dX12_lands_17 rfl ?_
    refine E_sipush (v := 200) dX12_lands_18 (by decide) ?_
    refine E_icmp_gt dX12_lands_21 (fun _ => ?_) (fun c => absurd (by rw [hx2]; exact nI_lt (a := 200) (by omega) (by omega)) c)
    refine E_aload_n dX12_lands_44 rfl ?_
    refine E_V0v vX12_184_12 dX12_lands_45 (Nat.le_of_ble_eq_true rfl) (by decide) (sh_159 _) (s_X12_putsBack hB (fun k hk => by rw [hv]; exact hH k hk) (fun S45 h45 f45 => ?_))
    refine E_iload_n dX12_lands_48 rfl ?_
    refine E_sipush (v := 200) dX12_lands_49 (by decide) ?_
    refine E_icmp_gt dX12_lands_52 (fun _ => ?_) (fun c => absurd (by rw [hx2]; exact nI_lt (a := 200) (by omega) (by omega)) c)
    refine E_ldc dX12_lands_59 kX12_136 ?_
    refine E_iret dX12_lands_61 rfl rfl ?_
    exact hq S45 h45 f45.mh
  | succ f ih =>
    intro c0 S x2 i hx2 hi hv iv hB hH hq
    refine E_iload_n dX12_lands_17 rfl ?_
    refine E_sipush (v := 200) dX12_lands_18 (by decide) ?_
    refine E_icmp_gt dX12_lands_21 (fun c => absurd c (by rw [hx2]; exact i_lt (nI_le (b := 200) (by omega) (by omega)))) (fun _ => ?_)
    refine E_aload_n dX12_lands_24 rfl ?_
    refine E_iload_n dX12_lands_25 rfl ?_
    refine E_ic (v := 1) dX12_lands_26 (by decide) ?_
    refine E_V2i vX12_85_12 dX12_lands_27 (Nat.le_of_ble_eq_true rfl) (by decide) (sh_159 _) (s_X12_of hv p 1 (16 + 9 * p) rfl rfl (by omega) (by omega) ?_)
    refine E_ic (v := 1) dX12_lands_30 (by decide) ?_
    refine E_icmp_eq dX12_lands_31 (fun c31 => ?_) (fun c31 => ?_)
    · refine E_aload_n dX12_lands_44 rfl ?_
      refine E_V0v vX12_184_12 dX12_lands_45 (Nat.le_of_ble_eq_true rfl) (by decide) (sh_159 _) (s_X12_putsBack hB (fun k hk => by rw [hv]; exact hH k hk) (fun S45 h45 f45 => ?_))
      refine E_iload_n dX12_lands_48 rfl ?_
      refine E_sipush (v := 200) dX12_lands_49 (by decide) ?_
      refine E_icmp_gt dX12_lands_52 (fun c => absurd c (by rw [hx2]; exact i_lt (nI_le (b := 200) (by omega) (by omega)))) (fun _ => ?_)
      refine E_iload_n dX12_lands_55 rfl ?_
      refine E_goto dX12_lands_56 ?_
      refine E_iret dX12_lands_61 rfl rfl ?_
      rw [laF_hit c31] at hq
      rw [hx2]
      exact hq S45 h45 f45.mh
    · refine E_aload_n dX12_lands_34 rfl ?_
      refine E_V0v vX12_165_12 dX12_lands_35 (Nat.le_of_ble_eq_true rfl) (by decide) (sh_159 _) (s_X12_minute hv iv (fun S35 h35 f35 => ?_))
      refine E_iinc (v := 1) dX12_lands_38 rfl (by decide) (by decide) ?_
      refine E_goto dX12_lands_41 ?_
      rw [laF_miss c31] at hq
      exact E.loc (by exact ⟨rfl, rfl, rfl, trivial⟩) (ih (miV c0) S35 _ (i + 1) (by rw [hx2, nI_1]) (by omega) h35 (IV_mi iv) (fun k hk => by rw [f35 163 (by decide) (by decide) (by decide)]; exact hB k hk) (fun k hk => by rw [mi_un iv (Or.inr (Or.inr (by omega)))]; exact hH k hk) (fun S9 a9 b9 => hq S9 a9 (f35.mh.tr b9)))
theorem s_X12_lands {Q : Int32 → HP → Prop} (hv : S 160 = v) (iv : IV v) {x : Int32} (hq : ∀ S', S' 160 = v → MH S S' → Q (landsR v x) (lay Θ S')) : C Θ (d + 5) 0 0 yX12_lands cX12_lands 3 (some .int) [.ref (tb Θ + 159), .int x] 183 (lay Θ S) (Qi Q) := by
  refine C_of rfl rfl (Nat.le_of_ble_eq_true rfl) ?_
  obtain ⟨m, hm9, hm, hpa⟩ := iv.1
  have hmm : mN v = m := by rw [mN, hm, nI_clamp (by omega)]
  have hm1 : S 160 1 = nI m := by rw [hv]; exact hm
  refine E_aload_n dX12_lands_0 rfl ?_
  refine E_iload_n dX12_lands_1 rfl ?_
  refine E_V1i vX12_112_12 dX12_lands_2 (Nat.le_of_ble_eq_true rfl) (by decide) (sh_159 _) (s_X12_isOne hm1 hm9 (fun g1 => ?_) (fun g1 => ?_))
  · obtain ⟨p, hp, ep, ip⟩ := ix_some (by omega) g1
    refine E_if_ne dX12_lands_5 (fun _ => ?_) (fun c => absurd c (by decide))
    refine E_aload_n dX12_lands_11 rfl ?_
    refine E_V0v vX12_181_12 dX12_lands_12 (Nat.le_of_ble_eq_true rfl) (by decide) (sh_159 _) (s_X12_thinks hv (fun S12 h12 B12 f12 => ?_))
    refine E_ic (v := 0) dX12_lands_15 (by decide) ?_
    refine E_istore_n dX12_lands_16 (by decide) ?_
    rw [landsR, hmm, ip, Option.elim] at hq
    rw [ep]
    exact E.loc (by exact ⟨rfl, rfl, rfl, trivial⟩) (l_X12_lands (by omega) 201 v S12 0 0 rfl (by omega) h12 iv B12 (fun _ _ => rfl) (fun S9 a9 b9 => hq S9 a9 (f12.tr b9)))
  · have ip := ix_none (by omega) g1
    refine E_if_ne dX12_lands_5 (fun c => absurd rfl c) (fun _ => ?_)
    refine E_ldc dX12_lands_8 kX12_107 ?_
    refine E_iret dX12_lands_10 rfl rfl ?_
    rw [landsR, hmm, ip] at hq
    exact hq S hv MH.rf
theorem l_X11_lands {Q : Int32 → HP → Prop} {p m : Nat} (hp : p < m) (hm9 : m ≤ 9) : ∀ (f : Nat) (c0 : WV) (S : SS) (x3 : Int32) (i : Nat), x3 = nI i → i + f = 201 → WRep S 64 c0 → IV c0 → TRep S c0 → mN c0 = m → (∀ S', WF 64 S S' → Q (laF c0 p f i) (lay Θ S')) → E Θ (d + 6) 0 0 yX11_lands cX11_lands 4 (some .int) 0 0 183 (lay Θ S) 34 [(3, .int x3), (2, .ref (tb Θ + (64 + 4 + 2 * p))), (1, .int (nI p)), (0, .ref (tb Θ + 0))] [] (Qi Q) := by
  have hw : isW 64 := isW64
  intro f
  induction f with
  | zero =>
    intro c0 S x3 i hx3 hi hR iv hT hmm hq
    refine E_iload_n dX11_lands_34 rfl ?_
    refine E_sipush (v := 200) dX11_lands_35 (by decide) ?_
    refine E_icmp_gt dX11_lands_38 (fun _ => ?_) (fun c => absurd (by rw [hx3]; exact nI_lt (a := 200) (by omega) (by omega)) c)
    refine E_ldc dX11_lands_64 kX11_181 ?_
    refine E_iret dX11_lands_66 rfl rfl ?_
    exact hq S WF.rf
  | succ f ih =>
    intro c0 S x3 i hx3 hi hR iv hT hmm hq
    refine E_iload_n dX11_lands_34 rfl ?_
    refine E_sipush (v := 200) dX11_lands_35 (by decide) ?_
    refine E_icmp_gt dX11_lands_38 (fun c => absurd c (by rw [hx3]; exact i_lt (nI_le (b := 200) (by omega) (by omega)))) (fun _ => ?_)
    refine E_aload_n dX11_lands_41 rfl ?_
    refine P_bank (p := p) hR isW64 hmm hm9 hp fX11_129 dX11_lands_42 ?_
    refine E_ic (v := 1) dX11_lands_45 (by decide) ?_
    refine E_icmp_ne dX11_lands_46 (fun c46 => ?_) (fun c46 => ?_)
    · refine E_aload_n dX11_lands_51 rfl ?_
      refine L_get fX11_90 dX11_lands_52 (by decide) sh_0 rfl ?_
      refine E_V0v vX11_211_10 dX11_lands_55 (Nat.le_of_ble_eq_true rfl) (by have := (isW64).lt; omega) ((sh_W isW64) _) (s_X10_passMinute isW64 hR iv hT (fun S55 h55 f55 => ?_))
      refine E_iinc (v := 1) dX11_lands_58 rfl (by decide) (by decide) ?_
      refine E_goto dX11_lands_61 ?_
      rw [laF_miss c46] at hq
      exact E.loc (by exact ⟨rfl, rfl, rfl, rfl, trivial⟩) (ih (miV c0) S55 _ (i + 1) (by rw [hx3, nI_1]) (by omega) h55 (IV_mi iv) (hT.keep isW64 f55 (mi_hi iv) (mi_un iv (Or.inr (Or.inl rfl))) (tN_le iv)) ((mN_miN iv 1).trans hmm) (fun S9 b9 => hq S9 (f55.tr b9)))
    · refine E_iload_n dX11_lands_49 rfl ?_
      refine E_iret dX11_lands_50 rfl rfl ?_
      rw [laF_hit c46] at hq
      rw [hx3]
      exact hq S WF.rf
theorem s_X11_lands {Q : Int32 → HP → Prop} (hR : WRep S 20 v) (iv : IV v) (hT : TRep S v) {x : Int32} (hq : ∀ S', WF 64 S S' → Q (landsR v x) (lay Θ S')) : C Θ (d + 6) 0 0 yX11_lands cX11_lands 4 (some .int) [.ref (tb Θ + 0), .int x] 183 (lay Θ S) (Qi Q) := by
  refine C_of rfl rfl (Nat.le_of_ble_eq_true rfl) ?_
  obtain ⟨m, hm9, hm, hpa⟩ := iv.1
  have hmm : mN v = m := by rw [mN, hm, nI_clamp (by omega)]
  have hw : isW 20 := isW20
  have hm1 : S 20 1 = nI m := (hR.1 (1, 1) (by decide)).trans hm
  refine E_aload_n dX11_lands_0 rfl ?_
  refine E_iload_n dX11_lands_1 rfl ?_
  refine E_V1i vX11_118_11 dX11_lands_2 (Nat.le_of_ble_eq_true rfl) (by decide) (sh_0 _) (s_X11_isOne hm1 hm9 (fun g1 => ?_) (fun g1 => ?_))
  · obtain ⟨p, hp, ep, ip⟩ := ix_some (by omega) g1
    refine E_if_ne dX11_lands_5 (fun _ => ?_) (fun c => absurd c (by decide))
    refine E_aload_n dX11_lands_11 rfl ?_
    refine L_get fX11_90 dX11_lands_12 (by decide) sh_0 rfl ?_
    refine E_aload_n dX11_lands_15 rfl ?_
    refine L_get fX11_83 dX11_lands_16 (by decide) sh_0 rfl ?_
    refine E_V1v vX11_230_10 dX11_lands_19 (Nat.le_of_ble_eq_true rfl) (by have := (isW64).lt; omega) ((sh_W isW64) _) (s_X10_becomeAs isW64 isW20 (by decide) hR hmm hm9 hm (law_ix hR iv) (fun S19 h19 f19 => ?_))
    refine E_aload_n dX11_lands_22 rfl ?_
    refine L_get fX11_90 dX11_lands_23 (by decide) sh_0 rfl ?_
    refine L_get fX11_111 dX11_lands_26 (by have := (isW64).lt; omega) (sh_W isW64) rfl ?_
    refine E_iload_n dX11_lands_29 rfl ?_
    refine L_aald (j := p) dX11_lands_30 (by have := (isW64).lt; omega) (sh_Wc isW64) rfl ep (by omega) (by decide) (if_pos (by omega)) ?_
    refine E_astore_n dX11_lands_31 (by decide) ?_
    refine E_ic (v := 0) dX11_lands_32 (by decide) ?_
    refine E_istore_n dX11_lands_33 (by decide) ?_
    rw [landsR, hmm, ip, Option.elim] at hq
    rw [ep]
    exact E.loc (by exact ⟨rfl, rfl, rfl, rfl, trivial⟩) (l_X11_lands hp hm9 201 v S19 0 0 rfl (by omega) h19 iv (hT.keep isW64 f19 eqHi.rf rfl (tN_le iv)) hmm (fun S9 b9 => hq S9 (f19.tr b9)))
  · have ip := ix_none (by omega) g1
    refine E_if_ne dX11_lands_5 (fun c => absurd rfl c) (fun _ => ?_)
    refine E_ldc dX11_lands_8 kX11_105 ?_
    refine E_iret dX11_lands_10 rfl rfl ?_
    rw [landsR, hmm, ip] at hq
    exact hq S WF.rf
end La
