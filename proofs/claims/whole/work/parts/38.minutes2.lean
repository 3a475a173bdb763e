/-! minutes, on both sides -/
section Mn
variable {Θ : Th} {d : Nat} {S : SS} {v : WV}
theorem s_X12_minutes {Q : Int32 → HP → Prop} (hv : S 160 = v) (iv : IV v) {k : Nat} (hk : k ≤ 9999) (h2 : v 2 = nI k) {x : Int32} (hq : ∀ S', S' 160 = (minutesR v x).2 → MF S S' → Q (minutesR v x).1 (lay Θ S')) : C Θ (d + 6) 0 0 yX12_minutes cX12_minutes 3 (some .int) [.ref (tb Θ + 159), .int x] 183 (lay Θ S) (Qi Q) := by
  refine C_of rfl rfl (Nat.le_of_ble_eq_true rfl) ?_
  refine E_iload_n dX12_minutes_0 rfl ?_
  refine E_ic (v := 1) dX12_minutes_1 (by decide) ?_
  refine E_bipush (v := 100) dX12_minutes_2 (by decide) ?_
  refine E_S3i sX12_81 dX12_minutes_4 (Nat.le_of_ble_eq_true rfl) (s_X12_in (fun g1a g1b => ?_) (fun g1 => ?_))
  · refine E_if_ne dX12_minutes_7 (fun _ => ?_) (fun c => absurd c (by decide))
    obtain ⟨n, hn, en⟩ := isIx_le (n := 100) (by decide) (Int32.le_trans (by decide) g1a) g1b
    have ec : clampF (9999 - v 2) 0 x = nI (min (9999 - k) n) := by rw [h2, en]; exact cl_min hk (by omega)
    refine E_aload_n dX12_minutes_13 rfl ?_
    refine L_get fX12_9 dX12_minutes_14 (by decide) sh_159 rfl ?_
    refine E_bipush (v := 10) dX12_minutes_17 (by decide) ?_
    refine N_iald (j := 10) dX12_minutes_19 rfl (by decide) hv ?_
    refine E_istore_n dX12_minutes_20 (by decide) ?_
    refine E_aload_n dX12_minutes_21 rfl ?_
    refine E_sipush (v := 9999) dX12_minutes_22 (by decide) ?_
    refine E_aload_n dX12_minutes_25 rfl ?_
    refine L_get fX12_9 dX12_minutes_26 (by decide) sh_159 rfl ?_
    refine E_ic (v := 2) dX12_minutes_29 (by decide) ?_
    refine N_iald (j := 2) dX12_minutes_30 rfl (by decide) hv ?_
    refine E_isub dX12_minutes_31 ?_
    refine E_ic (v := 0) dX12_minutes_32 (by decide) ?_
    refine E_iload_n dX12_minutes_33 rfl ?_
    refine E_S3i sX12_100 dX12_minutes_34 (Nat.le_of_ble_eq_true rfl) (s_X12_within ?_)
    refine E_V1v vX12_168_12 dX12_minutes_37 (Nat.le_of_ble_eq_true rfl) (by decide) (sh_159 _) (s_X12_goesOn hv iv (n := min (9999 - k) n) (by omega) ec (fun S37 h37 f37 => ?_))
    refine E_aload_n dX12_minutes_40 rfl ?_
    refine L_get fX12_9 dX12_minutes_41 (by decide) sh_159 rfl ?_
    refine E_bipush (v := 10) dX12_minutes_44 (by decide) ?_
    refine N_iald (j := 10) dX12_minutes_46 rfl (by decide) h37 ?_
    refine E_iload_n dX12_minutes_47 rfl ?_
    refine E_isub dX12_minutes_48 ?_
    refine E_iret dX12_minutes_49 rfl rfl ?_
    rw [minutesR, if_pos ⟨g1a, g1b⟩, ec, nI_clamp (by omega)] at hq
    exact hq S37 h37 f37
  · refine E_if_ne dX12_minutes_7 (fun c => absurd rfl c) (fun _ => ?_)
    refine E_ldc dX12_minutes_10 kX12_107 ?_
    refine E_iret dX12_minutes_12 rfl rfl ?_
    rw [minutesR, if_neg g1] at hq
    exact hq S hv MF.rf
theorem l_X11_minutes {Q : Int32 → HP → Prop} (iv : IV v) {k : Nat} (hk : k ≤ 9999) (h2 : v 2 = nI k) {n : Nat} (hn : n ≤ 100) {yy : Int32} : ∀ (f : Nat) (S : SS) (x3 : Int32) (i : Nat), x3 = nI i → i + f = min (9999 - k) n → WRep S 20 (miN v i) → TRep S (miN v i) → (∀ S', WRep S' 20 (miN v (min (9999 - k) n)) → TRep S' (miN v (min (9999 - k) n)) → WF 20 S S' → Q (miN v (min (9999 - k) n) 10 - yy) (lay Θ S')) → E Θ (d + 6) 0 0 yX11_minutes cX11_minutes 4 (some .int) 0 0 183 (lay Θ S) 25 [(3, .int x3), (2, .int yy), (1, .int (nI n)), (0, .ref (tb Θ + 0))] [] (Qi Q) := by
  have hw : isW 20 := isW20
  intro f
  induction f with
  | zero =>
    intro S x3 i hx3 hi hR hT hq
    refine E_iload_n dX11_minutes_25 rfl ?_
    refine E_iload_n dX11_minutes_26 rfl ?_
    refine E_icmp_ge dX11_minutes_27 (fun c27 => ?_) (fun c27 => ?_)
    · refine E_aload_n dX11_minutes_56 rfl ?_
      refine L_get fX11_83 dX11_minutes_57 (by decide) sh_0 rfl ?_
      refine L_get fX11_205 dX11_minutes_60 (by have := (isW20).lt; omega) (sh_W isW20) rfl ?_
      refine E_ic (v := 0) dX11_minutes_63 (by decide) ?_
      refine T_get (j := 0) hR hw dX11_minutes_64 rfl (by decide) ?_
      refine E_iload_n dX11_minutes_65 rfl ?_
      refine E_isub dX11_minutes_66 ?_
      refine E_iret dX11_minutes_67 rfl rfl ?_
      have ei : i = min (9999 - k) n := by omega
      rw [ei] at hR hT ⊢
      exact hq S hR hT WF.rf
    · refine E_aload_n dX11_minutes_30 rfl ?_
      refine L_get fX11_83 dX11_minutes_31 (by decide) sh_0 rfl ?_
      refine W_get (j := 10) (i := 2) hR hw (by decide) fX11_208 dX11_minutes_34 ?_
      refine E_sipush (v := 9999) dX11_minutes_37 (by decide) ?_
      refine E_icmp_ge dX11_minutes_40 (fun c40 => ?_) (fun c40 => ?_)
      · refine E_aload_n dX11_minutes_56 rfl ?_
        refine L_get fX11_83 dX11_minutes_57 (by decide) sh_0 rfl ?_
        refine L_get fX11_205 dX11_minutes_60 (by have := (isW20).lt; omega) (sh_W isW20) rfl ?_
        refine E_ic (v := 0) dX11_minutes_63 (by decide) ?_
        refine T_get (j := 0) hR hw dX11_minutes_64 rfl (by decide) ?_
        refine E_iload_n dX11_minutes_65 rfl ?_
        refine E_isub dX11_minutes_66 ?_
        refine E_iret dX11_minutes_67 rfl rfl ?_
        have ei : i = min (9999 - k) n := by omega
        rw [ei] at hR hT ⊢
        exact hq S hR hT WF.rf
      · have a1 : i < n := Nat.lt_of_not_le (fun h => c27 (by rw [hx3]; exact nI_le h (by omega)))
        have a2 : k + i < 9999 := Nat.lt_of_not_le (fun h => c40 (by rw [miN_2 iv h2]; exact nI_le (a := 9999) h (by omega)))
        exact absurd hi (by omega)
  | succ f ih =>
    intro S x3 i hx3 hi hR hT hq
    refine E_iload_n dX11_minutes_25 rfl ?_
    refine E_iload_n dX11_minutes_26 rfl ?_
    refine E_icmp_ge dX11_minutes_27 (fun c => absurd c (fun c => absurd ((nI_leI (by omega) (by omega)).mp (hx3 ▸ c)) (by omega))) (fun _ => ?_)
    refine E_aload_n dX11_minutes_30 rfl ?_
    refine L_get fX11_83 dX11_minutes_31 (by decide) sh_0 rfl ?_
    refine W_get (j := 10) (i := 2) hR hw (by decide) fX11_208 dX11_minutes_34 ?_
    refine E_sipush (v := 9999) dX11_minutes_37 (by decide) ?_
    refine E_icmp_ge dX11_minutes_40 (fun c => absurd c (fun c => absurd ((nI_leI (a := 9999) (by omega) (by omega)).mp (miN_2 iv h2 i ▸ c)) (by omega))) (fun _ => ?_)
    refine E_aload_n dX11_minutes_43 rfl ?_
    refine L_get fX11_83 dX11_minutes_44 (by decide) sh_0 rfl ?_
    refine E_V0v vX11_211_10 dX11_minutes_47 (Nat.le_of_ble_eq_true rfl) (by have := (isW20).lt; omega) ((sh_W isW20) _) (s_X10_passMinute isW20 hR (IV_miN iv i) hT (fun S47 h47 f47 => ?_))
    refine E_iinc (v := 1) dX11_minutes_50 rfl (by decide) (by decide) ?_
    refine E_goto dX11_minutes_53 ?_
    exact E.loc (by exact ⟨rfl, rfl, rfl, rfl, trivial⟩) (ih S47 _ (i + 1) (by rw [hx3, nI_1]) (by omega) h47 (hT.keep isW20 f47 (mi_hi (IV_miN iv i)) (mi_un (IV_miN iv i) (Or.inr (Or.inl rfl))) (tN_le (IV_miN iv i))) (fun S9 a9 t9 b9 => hq S9 a9 t9 (f47.tr b9)))
theorem s_X11_minutes {Q : Int32 → HP → Prop} (hR : WRep S 20 v) (iv : IV v) (hT : TRep S v) {k : Nat} (hk : k ≤ 9999) (h2 : v 2 = nI k) {x : Int32} (hq : ∀ S', WRep S' 20 (minutesR v x).2 → TRep S' (minutesR v x).2 → WF 20 S S' → Q (minutesR v x).1 (lay Θ S')) : C Θ (d + 6) 0 0 yX11_minutes cX11_minutes 4 (some .int) [.ref (tb Θ + 0), .int x] 183 (lay Θ S) (Qi Q) := by
  refine C_of rfl rfl (Nat.le_of_ble_eq_true rfl) ?_
  have hw : isW 20 := isW20
  refine E_iload_n dX11_minutes_0 rfl ?_
  refine E_ic (v := 1) dX11_minutes_1 (by decide) ?_
  refine E_bipush (v := 100) dX11_minutes_2 (by decide) ?_
  refine E_S3i sX11_145 dX11_minutes_4 (Nat.le_of_ble_eq_true rfl) (s_X11_within (fun g1a g1b => ?_) (fun g1 => ?_))
  · refine E_if_ne dX11_minutes_7 (fun _ => ?_) (fun c => absurd c (by decide))
    obtain ⟨n, hn, en⟩ := isIx_le (n := 100) (by decide) (Int32.le_trans (by decide) g1a) g1b
    have ec : clampF (9999 - v 2) 0 x = nI (min (9999 - k) n) := by rw [h2, en]; exact cl_min hk (by omega)
    refine E_aload_n dX11_minutes_13 rfl ?_
    refine L_get fX11_83 dX11_minutes_14 (by decide) sh_0 rfl ?_
    refine L_get fX11_205 dX11_minutes_17 (by have := (isW20).lt; omega) (sh_W isW20) rfl ?_
    refine E_ic (v := 0) dX11_minutes_20 (by decide) ?_
    refine T_get (j := 0) hR hw dX11_minutes_21 rfl (by decide) ?_
    refine E_istore_n dX11_minutes_22 (by decide) ?_
    refine E_ic (v := 0) dX11_minutes_23 (by decide) ?_
    refine E_istore_n dX11_minutes_24 (by decide) ?_
    rw [minutesR, if_pos ⟨g1a, g1b⟩, ec, nI_clamp (by omega)] at hq
    rw [en]
    exact E.loc (by exact ⟨rfl, rfl, rfl, rfl, trivial⟩) (l_X11_minutes iv hk h2 (by omega) (min (9999 - k) n) S 0 0 rfl (by omega) hR hT hq)
  · refine E_if_ne dX11_minutes_7 (fun c => absurd rfl c) (fun _ => ?_)
    refine E_ldc dX11_minutes_10 kX11_105 ?_
    refine E_iret dX11_minutes_12 rfl rfl ?_
    rw [minutesR, if_neg g1] at hq
    exact hq S hR hT WF.rf
end Mn
