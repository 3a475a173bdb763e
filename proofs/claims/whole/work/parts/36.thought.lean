/-! what is only thought, on both sides -/
def MH (S S' : SS) : Prop := ∀ k, k ≠ 160 → k ≠ 163 → k ≠ 172 → k ≠ 173 → S' k = S k
theorem MH.rf {S : SS} : MH S S := fun _ _ _ _ _ => rfl
theorem MH.tr {S S' S'' : SS} (h : MH S S') (h' : MH S' S'') : MH S S'' := fun k a b c e => (h' k a b c e).trans (h k a b c e)
theorem MF.mh {S S' : SS} (h : MF S S') : MH S S' := fun k a _ c e => h k a c e
theorem miN_un {v : WV} {k : Nat} (iv : IV v) (hk : k = 1 ∨ k = 14 ∨ 96 ≤ k) : ∀ n, miN v n k = v k
  | 0 => rfl
  | n + 1 => (mi_un (IV_miN iv n) hk).trans (miN_un iv hk n)
theorem mN_miN {v : WV} (iv : IV v) (n : Nat) : mN (miN v n) = mN v := by rw [mN, mN, miN_un iv (Or.inl rfl)]
theorem law_ix {S : SS} {w : Nat} {v : WV} (hR : WRep S w v) (iv : IV v) : ∀ c, c < 3 → S (w + 3) c < 0 ∨ ∃ t, t < 15 ∧ S (w + 3) c = nI t := by
  intro c hc
  rw [hR.2.2.1 c hc]
  by_cases h : lawF v (nI c) < 0
  · exact Or.inl h
  · obtain ⟨i, hi, e⟩ := cnt_ix (v := v) (key := nI c) (tN v) (i_nlt h)
    have := tN_le iv
    exact Or.inr ⟨i, by omega, e⟩
def behindR (v : WV) (x z : Int32) : Int32 := (ix x 101).elim bad fun n => if z < 0 then bad else if z < 5 then stF (miN v n) z else (ix (z - 5) (mN v)).elim bad fun p => miN v n (17 + 9 * p)
theorem fivem {z : Int32} {m : Nat} (hm : m ≤ 9) (h : ¬ z < 5) : isIx (z - 5) m ↔ z < 5 + nI m := by
  obtain ⟨k, hk, e⟩ := nI_of (x := z) (fun h0 => h (Int32.lt_of_lt_of_le h0 (by decide)))
  have h5 : 5 ≤ k := Nat.le_of_not_lt (fun hl => h (by rw [e]; exact nI_lt (b := 5) hl (by omega)))
  rw [e, show nI k - 5 = nI (k - 5) from pk_sub (a := k) (b := 5) h5, show (5 : Int32) + nI m = nI (5 + m) from nI_add 5 m, nI_ltI hk (by omega)]
  constructor
  · rintro ⟨c, hc, ec⟩
    have := nI_inj (by omega) (by omega) ec
    omega
  · intro hl
    exact ⟨k - 5, by omega, rfl⟩
theorem ferry_st {u : WV} {z : Int32} (h0 : ¬ z < 0) (h : z < 5) : ferryR u z = stF u z := by
  obtain ⟨k, hk, e⟩ := nI_of h0
  have h5 : k < 5 := by rw [e] at h; exact (nI_ltI hk (by omega)).mp (show nI k < nI 5 from h)
  rw [ferryR, if_neg (fun h5' => absurd (h5' ▸ h) (by decide)), if_pos ⟨i_nlt h0, by rw [e]; exact nI_le (b := 4) (by omega) (by omega)⟩]
section Th
variable {Θ : Th} {d : Nat} {S : SS} {v : WV}
theorem s_X12_thinks {Q : HP → Prop} (hv : S 160 = v) (hq : ∀ S', S' 160 = v → (∀ k, k < 1468 → S' 163 k = v k) → MH S S' → Q (lay Θ S')) : C Θ (d + 1) 0 0 yX12_thinks cX12_thinks 1 none [.ref (tb Θ + 159)] 183 (lay Θ S) (Qv Q) := by
  refine C_of rfl rfl (Nat.le_of_ble_eq_true rfl) ?_
  refine E_aload_n dX12_thinks_0 rfl ?_
  refine L_get fX12_9 dX12_thinks_1 (by decide) sh_159 rfl ?_
  refine E_aload_n dX12_thinks_4 rfl ?_
  refine L_get fX12_19 dX12_thinks_5 (by decide) sh_159 rfl ?_
  refine E_S2v sX12_177 dX12_thinks_8 (Nat.le_of_ble_eq_true rfl) (s_X12_copyAll (a := 160) (b := 163) (by decide) sh_160 (by decide) sh_163 (by decide) (fun S8 a8 b8 c8 => ?_))
  refine E_vret dX12_thinks_11 rfl rfl ?_
  exact hq S8 ((c8 160 (by decide)).trans hv) (fun k hk => by rw [a8 k hk, hv]) (fun k _ h3 _ _ => c8 k h3)
theorem s_X12_putsBack {Q : HP → Prop} (hB : ∀ k, k < 1468 → S 163 k = v k) (hH : ∀ k, 1468 ≤ k → S 160 k = v k) (hq : ∀ S', S' 160 = v → MF S S' → Q (lay Θ S')) : C Θ (d + 1) 0 0 yX12_putsBack cX12_putsBack 1 none [.ref (tb Θ + 159)] 183 (lay Θ S) (Qv Q) := by
  refine C_of rfl rfl (Nat.le_of_ble_eq_true rfl) ?_
  refine E_aload_n dX12_putsBack_0 rfl ?_
  refine L_get fX12_19 dX12_putsBack_1 (by decide) sh_159 rfl ?_
  refine E_aload_n dX12_putsBack_4 rfl ?_
  refine L_get fX12_9 dX12_putsBack_5 (by decide) sh_159 rfl ?_
  refine E_S2v sX12_177 dX12_putsBack_8 (Nat.le_of_ble_eq_true rfl) (s_X12_copyAll (a := 163) (b := 160) (by decide) sh_163 (by decide) sh_160 (by decide) (fun S8 a8 b8 c8 => ?_))
  refine E_vret dX12_putsBack_11 rfl rfl ?_
  exact hq S8 (funext fun k => by rcases Nat.lt_or_ge k 1468 with h | h; exact (a8 k h).trans (hB k h); exact (b8 k h).trans (hH k h)) (fun k h0 _ _ => c8 k h0)
theorem z_lt5 {z : Int32} (h : z ≤ 4) : z < 5 := Int32.lt_of_le_of_lt h (by decide)
theorem z_le4 {z : Int32} (h0 : ¬ z < 0) (h : z < 5) : z ≤ 4 := by
  obtain ⟨k, hk, e⟩ := nI_of h0
  rw [e] at h ⊢
  have := (nI_ltI (b := 5) hk (by omega)).mp h
  exact nI_le (b := 4) (by omega) (by omega)
theorem s_X12_behind {Q : Int32 → HP → Prop} (hv : S 160 = v) (iv : IV v) {x z : Int32} (hq : ∀ S', S' 160 = v → MH S S' → Q (behindR v x z) (lay Θ S')) : C Θ (d + 6) 0 0 yX12_behind cX12_behind 4 (some .int) [.ref (tb Θ + 159), .int x, .int z] 183 (lay Θ S) (Qi Q) := by
  refine C_of rfl rfl (Nat.le_of_ble_eq_true rfl) ?_
  obtain ⟨m, hm9, hm, hpa⟩ := iv.1
  have hmm : mN v = m := by rw [mN, hm, nI_clamp (by omega)]
  have hm1 : S 160 1 = nI m := by rw [hv]; exact hm
  refine E_iload_n dX12_behind_0 rfl ?_
  refine E_ic (v := 0) dX12_behind_1 (by decide) ?_
  refine E_bipush (v := 100) dX12_behind_2 (by decide) ?_
  refine E_S3i sX12_81 dX12_behind_4 (Nat.le_of_ble_eq_true rfl) (s_X12_in (fun g1a g1b => ?_) (fun g1 => ?_))
  · obtain ⟨n, hn, en, iN⟩ := ix_some (by omega) (isIx_le (n := 100) (by decide) g1a g1b)
    refine E_if_eq dX12_behind_7 (fun c => absurd c (by decide)) (fun _ => ?_)
    refine E_iload_n dX12_behind_10 rfl ?_
    refine E_if_lt dX12_behind_11 (fun c11 => ?_) (fun c11 => ?_)
    · refine E_ldc dX12_behind_29 kX12_107 ?_
      refine E_iret dX12_behind_31 rfl rfl ?_
      rw [behindR, iN, Option.elim, if_pos c11] at hq
      exact hq S hv MH.rf
    · refine E_iload_n dX12_behind_14 rfl ?_
      refine E_ic (v := 4) dX12_behind_15 (by decide) ?_
      refine E_icmp_le dX12_behind_16 (fun c16 => ?_) (fun c16 => ?_)
      · refine E_aload_n dX12_behind_32 rfl ?_
        have z5 : z < 5 := z_lt5 c16
        refine E_V0v vX12_181_12 dX12_behind_33 (Nat.le_of_ble_eq_true rfl) (by decide) (sh_159 _) (s_X12_thinks hv (fun S33 h33 B33 f33 => ?_))
        refine E_aload_n dX12_behind_36 rfl ?_
        refine E_iload_n dX12_behind_37 rfl ?_
        refine E_V1v vX12_168_12 dX12_behind_38 (Nat.le_of_ble_eq_true rfl) (by decide) (sh_159 _) (s_X12_goesOn h33 iv (by omega) en (fun S38 h38 f38 => ?_))
        refine E_iload_n dX12_behind_41 rfl ?_
        refine E_ic (v := 5) dX12_behind_42 (by decide) ?_
        refine E_icmp_ge dX12_behind_43 (fun c => absurd c (fun c => absurd z5 (i_lt c))) (fun _ => ?_)
        refine E_aload_n dX12_behind_46 rfl ?_
        refine E_iload_n dX12_behind_47 rfl ?_
        refine E_V1i vX12_196_12 dX12_behind_48 (Nat.le_of_ble_eq_true rfl) (by decide) (sh_159 _) (s_X12_ferry h38 (m := m) ((miN_un iv (Or.inl rfl) n).trans hm) ((mN_miN iv n).trans hmm) hm9 ?_)
        refine E_goto dX12_behind_51 ?_
        refine E_istore_n dX12_behind_62 (by decide) ?_
        refine E_aload_n dX12_behind_63 rfl ?_
        have B38 : ∀ k, k < 1468 → S38 163 k = v k := fun k hk => by rw [f38 163 (by decide) (by decide) (by decide)]; exact B33 k hk
        have H38 : ∀ k, 1468 ≤ k → S38 160 k = v k := fun k hk => by rw [h38]; exact miN_un iv (Or.inr (Or.inr (by omega))) n
        refine E_V0v vX12_184_12 dX12_behind_64 (Nat.le_of_ble_eq_true rfl) (by decide) (sh_159 _) (s_X12_putsBack B38 H38 (fun S64 h64 f64 => ?_))
        refine E_iload_n dX12_behind_67 rfl ?_
        refine E_iret dX12_behind_68 rfl rfl ?_
        rw [ferry_st c11 z5]
        rw [behindR, iN, Option.elim, if_neg c11, if_pos z5] at hq
        exact hq S64 h64 ((f33.tr f38.mh).tr f64.mh)
      · refine E_aload_n dX12_behind_19 rfl ?_
        refine E_iload_n dX12_behind_20 rfl ?_
        refine E_ic (v := 5) dX12_behind_21 (by decide) ?_
        refine E_isub dX12_behind_22 ?_
        refine E_V1i vX12_112_12 dX12_behind_23 (Nat.le_of_ble_eq_true rfl) (by decide) (sh_159 _) (s_X12_isOne hm1 hm9 (fun g2 => ?_) (fun g2 => ?_))
        · obtain ⟨p, hp, ep, ip⟩ := ix_some (by omega) g2
          refine E_if_ne dX12_behind_26 (fun _ => ?_) (fun c => absurd c (by decide))
          refine E_aload_n dX12_behind_32 rfl ?_
          have z5 : ¬ z < 5 := fun h => c16 (z_le4 c11 h)
          refine E_V0v vX12_181_12 dX12_behind_33 (Nat.le_of_ble_eq_true rfl) (by decide) (sh_159 _) (s_X12_thinks hv (fun S33 h33 B33 f33 => ?_))
          refine E_aload_n dX12_behind_36 rfl ?_
          refine E_iload_n dX12_behind_37 rfl ?_
          refine E_V1v vX12_168_12 dX12_behind_38 (Nat.le_of_ble_eq_true rfl) (by decide) (sh_159 _) (s_X12_goesOn h33 iv (by omega) en (fun S38 h38 f38 => ?_))
          refine E_iload_n dX12_behind_41 rfl ?_
          refine E_ic (v := 5) dX12_behind_42 (by decide) ?_
          refine E_icmp_ge dX12_behind_43 (fun _ => ?_) (fun c => absurd (i_nlt z5) c)
          refine E_aload_n dX12_behind_54 rfl ?_
          refine E_iload_n dX12_behind_55 rfl ?_
          refine E_ic (v := 5) dX12_behind_56 (by decide) ?_
          refine E_isub dX12_behind_57 ?_
          refine E_ic (v := 2) dX12_behind_58 (by decide) ?_
          refine E_V2i vX12_85_12 dX12_behind_59 (Nat.le_of_ble_eq_true rfl) (by decide) (sh_159 _) (s_X12_of h38 p 2 (17 + 9 * p) ep rfl (by omega) (by omega) ?_)
          refine E_istore_n dX12_behind_62 (by decide) ?_
          refine E_aload_n dX12_behind_63 rfl ?_
          have B38 : ∀ k, k < 1468 → S38 163 k = v k := fun k hk => by rw [f38 163 (by decide) (by decide) (by decide)]; exact B33 k hk
          have H38 : ∀ k, 1468 ≤ k → S38 160 k = v k := fun k hk => by rw [h38]; exact miN_un iv (Or.inr (Or.inr (by omega))) n
          refine E_V0v vX12_184_12 dX12_behind_64 (Nat.le_of_ble_eq_true rfl) (by decide) (sh_159 _) (s_X12_putsBack B38 H38 (fun S64 h64 f64 => ?_))
          refine E_iload_n dX12_behind_67 rfl ?_
          refine E_iret dX12_behind_68 rfl rfl ?_
          rw [behindR, iN, Option.elim, if_neg c11, if_neg z5, hmm, ip, Option.elim] at hq
          exact hq S64 h64 ((f33.tr f38.mh).tr f64.mh)
        · have ip := ix_none (by omega) g2
          refine E_if_ne dX12_behind_26 (fun c => absurd rfl c) (fun _ => ?_)
          refine E_ldc dX12_behind_29 kX12_107 ?_
          refine E_iret dX12_behind_31 rfl rfl ?_
          have z5 : ¬ z < 5 := fun h => c16 (z_le4 c11 h)
          rw [behindR, iN, Option.elim, if_neg c11, if_neg z5, hmm, ip] at hq
          exact hq S hv MH.rf
  · have iN := ix_none (n := 101) (by omega) (fun hh => g1 (isIx_back (n := 100) (by decide) hh))
    refine E_if_eq dX12_behind_7 (fun _ => ?_) (fun c => absurd (by decide) c)
    refine E_ldc dX12_behind_29 kX12_107 ?_
    refine E_iret dX12_behind_31 rfl rfl ?_
    rw [behindR, iN] at hq
    exact hq S hv MH.rf
theorem z_lt5m {z : Int32} {m : Nat} (h0 : ¬ z < 0) (h : z < 5) (hm : m ≤ 9) : z < 5 + nI m := by
  rw [show (5 : Int32) + nI m = nI (5 + m) from nI_add 5 m]
  exact Int32.lt_of_lt_of_le h (nI_le (a := 5) (by omega) (by omega))
theorem s_X11_behind {Q : Int32 → HP → Prop} (hR : WRep S 20 v) (iv : IV v) (hT : TRep S v) {x z : Int32} (hq : ∀ S', WF 64 S S' → Q (behindR v x z) (lay Θ S')) : C Θ (d + 7) 0 0 yX11_behind cX11_behind 3 (some .int) [.ref (tb Θ + 0), .int x, .int z] 183 (lay Θ S) (Qi Q) := by
  refine C_of rfl rfl (Nat.le_of_ble_eq_true rfl) ?_
  have hw : isW 20 := isW20
  obtain ⟨m, hm9, hm, hpa⟩ := iv.1
  have hmm : mN v = m := by rw [mN, hm, nI_clamp (by omega)]
  refine E_iload_n dX11_behind_0 rfl ?_
  refine E_ic (v := 0) dX11_behind_1 (by decide) ?_
  refine E_bipush (v := 100) dX11_behind_2 (by decide) ?_
  refine E_S3i sX11_145 dX11_behind_4 (Nat.le_of_ble_eq_true rfl) (s_X11_within (fun g1a g1b => ?_) (fun g1 => ?_))
  · obtain ⟨n, hn, en, iN⟩ := ix_some (by omega) (isIx_le (n := 100) (by decide) g1a g1b)
    refine E_if_eq dX11_behind_7 (fun c => absurd c (by decide)) (fun _ => ?_)
    refine E_iload_n dX11_behind_10 rfl ?_
    refine E_if_lt dX11_behind_11 (fun c11 => ?_) (fun c11 => ?_)
    · refine E_ldc dX11_behind_27 kX11_105 ?_
      refine E_iret dX11_behind_29 rfl rfl ?_
      rw [behindR, iN, Option.elim, if_pos c11] at hq
      exact hq S WF.rf
    · refine E_iload_n dX11_behind_14 rfl ?_
      refine E_ic (v := 5) dX11_behind_15 (by decide) ?_
      refine E_aload_n dX11_behind_16 rfl ?_
      refine L_get fX11_83 dX11_behind_17 (by decide) sh_0 rfl ?_
      refine W_get (j := 1) (i := 1) hR hw (by decide) fX11_106 dX11_behind_20 ?_
      refine E_iadd dX11_behind_23 ?_
      refine E_icmp_lt dX11_behind_24 (fun c24 => ?_) (fun c24 => ?_)
      · refine E_aload_n dX11_behind_30 rfl ?_
        refine L_get fX11_90 dX11_behind_31 (by decide) sh_0 rfl ?_
        refine E_aload_n dX11_behind_34 rfl ?_
        refine L_get fX11_83 dX11_behind_35 (by decide) sh_0 rfl ?_
        refine E_V1v vX11_230_10 dX11_behind_38 (Nat.le_of_ble_eq_true rfl) (by have := (isW64).lt; omega) ((sh_W isW64) _) (s_X10_becomeAs isW64 isW20 (by decide) hR hmm hm9 hm (law_ix hR iv) (fun S38 h38 f38 => ?_))
        refine E_aload_n dX11_behind_41 rfl ?_
        refine L_get fX11_90 dX11_behind_42 (by decide) sh_0 rfl ?_
        refine E_iload_n dX11_behind_45 rfl ?_
        refine E_V1v vX11_234_10 dX11_behind_46 (Nat.le_of_ble_eq_true rfl) (by have := (isW64).lt; omega) ((sh_W isW64) _) (s_X10_passMinutes isW64 h38 iv (hT.keep isW64 f38 eqHi.rf rfl (tN_le iv)) (by omega) en (fun S46 h46 t46 f46 => ?_))
        refine E_iload_n dX11_behind_49 rfl ?_
        refine E_ic (v := 5) dX11_behind_50 (by decide) ?_
        refine E_icmp_ge dX11_behind_51 (fun c51 => ?_) (fun c51 => ?_)
        · have hw : isW 64 := isW64
          obtain ⟨p, hp, ep, ip⟩ := ix_some (by omega) ((fivem hm9 (i_lt c51)).mpr (hm ▸ c24))
          refine E_aload_n dX11_behind_65 rfl ?_
          refine L_get fX11_90 dX11_behind_66 (by decide) sh_0 rfl ?_
          refine L_get fX11_111 dX11_behind_69 (by have := (isW64).lt; omega) (sh_W isW64) rfl ?_
          refine E_iload_n dX11_behind_72 rfl ?_
          refine E_ic (v := 5) dX11_behind_73 (by decide) ?_
          refine E_isub dX11_behind_74 ?_
          refine L_aald (j := p) dX11_behind_75 (by have := (isW64).lt; omega) (sh_Wc isW64) rfl ep (by omega) (by decide) (if_pos (by omega)) ?_
          refine P_temp (p := p) h46 isW64 ((mN_miN iv n).trans hmm) hm9 hp fX11_132 dX11_behind_76 ?_
          refine E_iret dX11_behind_79 rfl rfl ?_
          rw [behindR, iN, Option.elim, if_neg c11, if_neg (i_lt c51), hmm, ip, Option.elim] at hq
          exact hq S46 (f38.tr f46)
        · refine E_aload_n dX11_behind_54 rfl ?_
          refine L_get fX11_90 dX11_behind_55 (by decide) sh_0 rfl ?_
          refine E_iload_n dX11_behind_58 rfl ?_
          refine E_V1i vX11_217_10 dX11_behind_59 (Nat.le_of_ble_eq_true rfl) (by have := (isW64).lt; omega) ((sh_W isW64) _) (s_X10_standing isW64 h46 ((mN_miN iv n).trans hmm) hm9 ((miN_un iv (Or.inl rfl) n).trans hm) ?_)
          refine E_goto dX11_behind_62 ?_
          refine E_iret dX11_behind_79 rfl rfl ?_
          rw [behindR, iN, Option.elim, if_neg c11, if_pos (i_nle c51)] at hq
          exact hq S46 (f38.tr f46)
      · refine E_ldc dX11_behind_27 kX11_105 ?_
        refine E_iret dX11_behind_29 rfl rfl ?_
        have z5 : ¬ z < 5 := fun h => c24 (by rw [hm]; exact z_lt5m c11 h hm9)
        have ip := ix_none (n := m) (by omega) (fun hh => c24 (hm ▸ (fivem hm9 z5).mp hh))
        rw [behindR, iN, Option.elim, if_neg c11, if_neg z5, hmm, ip] at hq
        exact hq S WF.rf
  · have iN := ix_none (n := 101) (by omega) (fun hh => g1 (isIx_back (n := 100) (by decide) hh))
    refine E_if_eq dX11_behind_7 (fun _ => ?_) (fun c => absurd (by decide) c)
    refine E_ldc dX11_behind_27 kX11_105 ?_
    refine E_iret dX11_behind_29 rfl rfl ?_
    rw [behindR, iN] at hq
    exact hq S WF.rf
end Th
