/-! keep, back, count, tell, on both sides -/
def hi0 (f : Nat → Int32) : Prop := ∀ k, 1468 ≤ k → f k = 0
def countR (v : WV) (a b : Int32) (x : Int32) : Int32 := if x = 0 then v 1 else if x = 1 then v 2 else if x = 2 then v 3 else if x = 3 then v 4 else if x = 4 then v 14 else if x = 5 then a else if x = 6 then b else if x = 7 then v 0 else bad
section Ke
variable {Θ : Th} {d : Nat} {S : SS} {v : WV}
theorem s_X12_keep {Q : Int32 → HP → Prop} (hv : S 160 = v) (h0 : hi0 v) (h1 : hi0 (S 161)) (hq : ∀ S', S' 161 = v → S' 159 3 = 1 → (∀ j, j ≠ 3 → S' 159 j = S 159 j) → (∀ k, k ≠ 159 → k ≠ 161 → S' k = S k) → Q (v 1) (lay Θ S')) : C Θ (d + 1) 0 0 yX12_keep cX12_keep 1 (some .int) [.ref (tb Θ + 159)] 183 (lay Θ S) (Qi Q) := by
  refine C_of rfl rfl (Nat.le_of_ble_eq_true rfl) ?_
  refine E_aload_n dX12_keep_0 rfl ?_
  refine L_get fX12_9 dX12_keep_1 (by decide) sh_159 rfl ?_
  refine E_aload_n dX12_keep_4 rfl ?_
  refine L_get fX12_13 dX12_keep_5 (by decide) sh_159 rfl ?_
  refine E_S2v sX12_177 dX12_keep_8 (Nat.le_of_ble_eq_true rfl) (s_X12_copyAll (a := 160) (b := 161) (by decide) sh_160 (by decide) sh_161 (by decide) (fun S8 a8 b8 c8 => ?_))
  refine E_aload_n dX12_keep_11 rfl ?_
  refine E_ic (v := 1) dX12_keep_12 (by decide) ?_
  refine L_put fX12_284 dX12_keep_13 (by decide) sh_159 rfl rfl (Nat.le_of_ble_eq_true rfl) rfl ?_
  refine E_aload_n dX12_keep_16 rfl ?_
  refine L_get fX12_9 dX12_keep_17 (by decide) sh_159 rfl ?_
  refine E_ic (v := 1) dX12_keep_20 (by decide) ?_
  refine L_iald (j := 1) dX12_keep_21 (by decide) sh_160 rfl (by decide) (by decide) ?_
  refine E_iret dX12_keep_22 rfl rfl ?_
  rw [wr_ne (by decide), c8 160 (by decide), hv]
  refine hq _ ?_ ?_ (fun j hj => ?_) (fun k h1 h2 => ?_)
  · rw [wr_ne (by decide)]
    funext k
    rcases Nat.lt_or_ge k 1468 with h | h
    · rw [a8 k h, hv]
    · rw [b8 k h, h1 k h, h0 k h]
  · rw [wr_at, pk_us]
  · rw [wr_at, pk_un hj, c8 159 (by decide)]
  · rw [wr_ne h1, c8 k h2]
theorem s_X11_keep {Q : Int32 → HP → Prop} (hR : WRep S 20 v) (iv : IV v) (hq : ∀ S', WRep S' 42 v → S' 0 4 = 1 → (∀ j, j ≠ 4 → S' 0 j = S 0 j) → (∀ k, k ≠ 0 → (k < 42 ∨ 42 + 22 ≤ k) → (∀ t, t < 15 → k ≠ 86 + 3 * t + 2) → S' k = S k) → Q (v 1) (lay Θ S')) : C Θ (d + 3) 0 0 yX11_keep cX11_keep 1 (some .int) [.ref (tb Θ + 0)] 183 (lay Θ S) (Qi Q) := by
  refine C_of rfl rfl (Nat.le_of_ble_eq_true rfl) ?_
  have hw : isW 20 := isW20
  obtain ⟨m, hm9, hm, hpa⟩ := iv.1
  have hmm : mN v = m := by rw [mN, hm, nI_clamp (by omega)]
  refine E_aload_n dX11_keep_0 rfl ?_
  refine L_get fX11_87 dX11_keep_1 (by decide) sh_0 rfl ?_
  refine E_aload_n dX11_keep_4 rfl ?_
  refine L_get fX11_83 dX11_keep_5 (by decide) sh_0 rfl ?_
  refine E_V1v vX11_230_10 dX11_keep_8 (Nat.le_of_ble_eq_true rfl) (by have := (isW42).lt; omega) ((sh_W isW42) _) (s_X10_becomeAs isW42 isW20 (by decide) hR hmm hm9 hm (law_ix hR iv) (fun S8 h8 f8 => ?_))
  refine E_aload_n dX11_keep_11 rfl ?_
  refine E_ic (v := 1) dX11_keep_12 (by decide) ?_
  refine L_put fX11_326 dX11_keep_13 (by decide) sh_0 rfl rfl (Nat.le_of_ble_eq_true rfl) rfl ?_
  refine E_aload_n dX11_keep_16 rfl ?_
  refine L_get fX11_83 dX11_keep_17 (by decide) sh_0 rfl ?_
  refine L_get fX11_106 dX11_keep_20 (by have := (isW20).lt; omega) (sh_W isW20) rfl ?_
  refine E_iret dX11_keep_23 rfl rfl ?_
  rw [wr_ne (by decide), f8 20 (by decide) (by omega), hR.1 (1, 1) (by decide)]
  refine hq _ (h8.sm (by omega) (fun k h1 h2 => wr_ne (by omega))) ?_ (fun j hj => ?_) (fun k h1 h2 h3 => ?_)
  · rw [wr_at, pk_us]
  · rw [wr_at, pk_un hj, f8 0 (by omega) (by omega)]
  · rw [wr_ne h1, f8 k h2 h3]
theorem s_X12_back1 {Q : Int32 → HP → Prop} {u : WV} (hu : S 161 = u) (hh : S 159 3 = 1) (h0 : hi0 (S 160)) (h1 : hi0 u) (hq : ∀ S', S' 160 = u → (∀ k, k ≠ 160 → S' k = S k) → Q (u 1) (lay Θ S')) : C Θ (d + 1) 0 0 yX12_back cX12_back 1 (some .int) [.ref (tb Θ + 159)] 183 (lay Θ S) (Qi Q) := by
  refine C_of rfl rfl (Nat.le_of_ble_eq_true rfl) ?_
  refine E_aload_n dX12_back_0 rfl ?_
  refine L_get fX12_284 dX12_back_1 (by decide) sh_159 rfl ?_
  refine E_if_ne dX12_back_4 (fun _ => ?_) (fun c => absurd c (by rw [hh]; decide))
  refine E_aload_n dX12_back_10 rfl ?_
  refine L_get fX12_13 dX12_back_11 (by decide) sh_159 rfl ?_
  refine E_aload_n dX12_back_14 rfl ?_
  refine L_get fX12_9 dX12_back_15 (by decide) sh_159 rfl ?_
  refine E_S2v sX12_177 dX12_back_18 (Nat.le_of_ble_eq_true rfl) (s_X12_copyAll (a := 161) (b := 160) (by decide) sh_161 (by decide) sh_160 (by decide) (fun S18 a18 b18 c18 => ?_))
  refine E_aload_n dX12_back_21 rfl ?_
  refine L_get fX12_9 dX12_back_22 (by decide) sh_159 rfl ?_
  refine E_ic (v := 1) dX12_back_25 (by decide) ?_
  refine L_iald (j := 1) dX12_back_26 (by decide) sh_160 rfl (by decide) (by decide) ?_
  refine E_iret dX12_back_27 rfl rfl ?_
  have e : S18 160 = u := by
    funext k
    rcases Nat.lt_or_ge k 1468 with h | h
    · rw [a18 k h, hu]
    · rw [b18 k h, h0 k h, h1 k h]
  rw [e]
  exact hq S18 e (fun k hk => c18 k hk)
theorem s_X12_back0 {Q : Int32 → HP → Prop} (hh : S 159 3 = 0) (hq : Q noo (lay Θ S)) : C Θ (d + 1) 0 0 yX12_back cX12_back 1 (some .int) [.ref (tb Θ + 159)] 183 (lay Θ S) (Qi Q) := by
  refine C_of rfl rfl (Nat.le_of_ble_eq_true rfl) ?_
  refine E_aload_n dX12_back_0 rfl ?_
  refine L_get fX12_284 dX12_back_1 (by decide) sh_159 rfl ?_
  refine E_if_ne dX12_back_4 (fun c => absurd hh c) (fun _ => ?_)
  refine E_ldc dX12_back_7 kX12_130 ?_
  refine E_iret dX12_back_9 rfl rfl ?_
  exact hq
theorem s_X11_back1 {Q : Int32 → HP → Prop} (hR : WRep S 42 v) (iv : IV v) (hh : S 0 4 = 1) (hq : ∀ S', WRep S' 20 v → WF 20 S S' → Q (v 1) (lay Θ S')) : C Θ (d + 3) 0 0 yX11_back cX11_back 1 (some .int) [.ref (tb Θ + 0)] 183 (lay Θ S) (Qi Q) := by
  refine C_of rfl rfl (Nat.le_of_ble_eq_true rfl) ?_
  obtain ⟨m, hm9, hm, hpa⟩ := iv.1
  have hmm : mN v = m := by rw [mN, hm, nI_clamp (by omega)]
  refine E_aload_n dX11_back_0 rfl ?_
  refine L_get fX11_326 dX11_back_1 (by decide) sh_0 rfl ?_
  refine E_if_ne dX11_back_4 (fun _ => ?_) (fun c => absurd c (by rw [hh]; decide))
  refine E_aload_n dX11_back_10 rfl ?_
  refine L_get fX11_83 dX11_back_11 (by decide) sh_0 rfl ?_
  refine E_aload_n dX11_back_14 rfl ?_
  refine L_get fX11_87 dX11_back_15 (by decide) sh_0 rfl ?_
  refine E_V1v vX11_230_10 dX11_back_18 (Nat.le_of_ble_eq_true rfl) (by have := (isW20).lt; omega) ((sh_W isW20) _) (s_X10_becomeAs isW20 isW42 (by decide) hR hmm hm9 hm (law_ix hR iv) (fun S18 h18 f18 => ?_))
  refine E_aload_n dX11_back_21 rfl ?_
  refine L_get fX11_83 dX11_back_22 (by decide) sh_0 rfl ?_
  refine L_get fX11_106 dX11_back_25 (by have := (isW20).lt; omega) (sh_W isW20) rfl ?_
  refine E_iret dX11_back_28 rfl rfl ?_
  rw [h18.1 (1, 1) (by decide)]
  exact hq S18 h18 f18
theorem s_X11_back0 {Q : Int32 → HP → Prop} (hh : S 0 4 = 0) (hq : Q noo (lay Θ S)) : C Θ (d + 3) 0 0 yX11_back cX11_back 1 (some .int) [.ref (tb Θ + 0)] 183 (lay Θ S) (Qi Q) := by
  refine C_of rfl rfl (Nat.le_of_ble_eq_true rfl) ?_
  refine E_aload_n dX11_back_0 rfl ?_
  refine L_get fX11_326 dX11_back_1 (by decide) sh_0 rfl ?_
  refine E_if_ne dX11_back_4 (fun c => absurd hh c) (fun _ => ?_)
  refine E_ldc dX11_back_7 kX11_153 ?_
  refine E_iret dX11_back_9 rfl rfl ?_
  exact hq
theorem s_X12_count {Q : Int32 → HP → Prop} (hv : S 160 = v) {x : Int32} (hq : Q (countR v (S 159 34) (S 159 8) x) (lay Θ S)) : C Θ d 0 0 yX12_count cX12_count 2 (some .int) [.ref (tb Θ + 159), .int x] 183 (lay Θ S) (Qi Q) := by
  refine C_of rfl rfl (Nat.le_of_ble_eq_true rfl) ?_
  refine E_iload_n dX12_count_0 rfl ?_
  refine E_top (fun x1 hx1 => ?_)
  by_cases k1_0 : x1 = 0
  · refine E_tswI (tgt := 48) dX12_count_1 0 (by rw [k1_0]; decide) (by decide) rfl (by decide) ?_
    refine E_aload_n dX12_count_48 rfl ?_
    refine L_get fX12_9 dX12_count_49 (by decide) sh_159 rfl ?_
    refine E_ic (v := 1) dX12_count_52 (by decide) ?_
    refine N_iald (j := 1) dX12_count_53 rfl (by decide) hv ?_
    refine E_iret dX12_count_54 rfl rfl ?_
    rw [countR, ← hx1, k1_0, if_pos rfl] at hq
    exact hq
  by_cases k1_1 : x1 = 1
  · refine E_tswI (tgt := 55) dX12_count_1 1 (by rw [k1_1]; decide) (by decide) rfl (by decide) ?_
    refine E_aload_n dX12_count_55 rfl ?_
    refine L_get fX12_9 dX12_count_56 (by decide) sh_159 rfl ?_
    refine E_ic (v := 2) dX12_count_59 (by decide) ?_
    refine N_iald (j := 2) dX12_count_60 rfl (by decide) hv ?_
    refine E_iret dX12_count_61 rfl rfl ?_
    rw [countR, ← hx1, k1_1, if_neg (by decide), if_pos rfl] at hq
    exact hq
  by_cases k1_2 : x1 = 2
  · refine E_tswI (tgt := 62) dX12_count_1 2 (by rw [k1_2]; decide) (by decide) rfl (by decide) ?_
    refine E_aload_n dX12_count_62 rfl ?_
    refine L_get fX12_9 dX12_count_63 (by decide) sh_159 rfl ?_
    refine E_ic (v := 3) dX12_count_66 (by decide) ?_
    refine N_iald (j := 3) dX12_count_67 rfl (by decide) hv ?_
    refine E_iret dX12_count_68 rfl rfl ?_
    rw [countR, ← hx1, k1_2, if_neg (by decide), if_neg (by decide), if_pos rfl] at hq
    exact hq
  by_cases k1_3 : x1 = 3
  · refine E_tswI (tgt := 69) dX12_count_1 3 (by rw [k1_3]; decide) (by decide) rfl (by decide) ?_
    refine E_aload_n dX12_count_69 rfl ?_
    refine L_get fX12_9 dX12_count_70 (by decide) sh_159 rfl ?_
    refine E_ic (v := 4) dX12_count_73 (by decide) ?_
    refine N_iald (j := 4) dX12_count_74 rfl (by decide) hv ?_
    refine E_iret dX12_count_75 rfl rfl ?_
    rw [countR, ← hx1, k1_3, if_neg (by decide), if_neg (by decide), if_neg (by decide), if_pos rfl] at hq
    exact hq
  by_cases k1_4 : x1 = 4
  · refine E_tswI (tgt := 76) dX12_count_1 4 (by rw [k1_4]; decide) (by decide) rfl (by decide) ?_
    refine E_aload_n dX12_count_76 rfl ?_
    refine L_get fX12_9 dX12_count_77 (by decide) sh_159 rfl ?_
    refine E_bipush (v := 14) dX12_count_80 (by decide) ?_
    refine N_iald (j := 14) dX12_count_82 rfl (by decide) hv ?_
    refine E_iret dX12_count_83 rfl rfl ?_
    rw [countR, ← hx1, k1_4, if_neg (by decide), if_neg (by decide), if_neg (by decide), if_neg (by decide), if_pos rfl] at hq
    exact hq
  by_cases k1_5 : x1 = 5
  · refine E_tswI (tgt := 84) dX12_count_1 5 (by rw [k1_5]; decide) (by decide) rfl (by decide) ?_
    refine E_aload_n dX12_count_84 rfl ?_
    refine L_get fX12_281 dX12_count_85 (by decide) sh_159 rfl ?_
    refine E_iret dX12_count_88 rfl rfl ?_
    rw [countR, ← hx1, k1_5, if_neg (by decide), if_neg (by decide), if_neg (by decide), if_neg (by decide), if_neg (by decide), if_pos rfl] at hq
    exact hq
  by_cases k1_6 : x1 = 6
  · refine E_tswI (tgt := 89) dX12_count_1 6 (by rw [k1_6]; decide) (by decide) rfl (by decide) ?_
    refine E_aload_n dX12_count_89 rfl ?_
    refine L_get fX12_206 dX12_count_90 (by decide) sh_159 rfl ?_
    refine E_iret dX12_count_93 rfl rfl ?_
    rw [countR, ← hx1, k1_6, if_neg (by decide), if_neg (by decide), if_neg (by decide), if_neg (by decide), if_neg (by decide), if_neg (by decide), if_pos rfl] at hq
    exact hq
  by_cases k1_7 : x1 = 7
  · refine E_tswI (tgt := 94) dX12_count_1 7 (by rw [k1_7]; decide) (by decide) rfl (by decide) ?_
    refine E_aload_n dX12_count_94 rfl ?_
    refine L_get fX12_9 dX12_count_95 (by decide) sh_159 rfl ?_
    refine E_ic (v := 0) dX12_count_98 (by decide) ?_
    refine N_iald (j := 0) dX12_count_99 rfl (by decide) hv ?_
    refine E_iret dX12_count_100 rfl rfl ?_
    rw [countR, ← hx1, k1_7, if_neg (by decide), if_neg (by decide), if_neg (by decide), if_neg (by decide), if_neg (by decide), if_neg (by decide), if_neg (by decide), if_pos rfl] at hq
    exact hq
  refine E_tswO (tgt := 101) dX12_count_1 (by have := ne_toInt (k := 0) (by decide) k1_0; have := ne_toInt (k := 1) (by decide) k1_1; have := ne_toInt (k := 2) (by decide) k1_2; have := ne_toInt (k := 3) (by decide) k1_3; have := ne_toInt (k := 4) (by decide) k1_4; have := ne_toInt (k := 5) (by decide) k1_5; have := ne_toInt (k := 6) (by decide) k1_6; have := ne_toInt (k := 7) (by decide) k1_7; omega) (by decide) ?_
  refine E_ldc dX12_count_101 kX12_107 ?_
  refine E_iret dX12_count_103 rfl rfl ?_
  rw [countR, if_neg (hx1 ▸ k1_0), if_neg (hx1 ▸ k1_1), if_neg (hx1 ▸ k1_2), if_neg (hx1 ▸ k1_3), if_neg (hx1 ▸ k1_4), if_neg (hx1 ▸ k1_5), if_neg (hx1 ▸ k1_6), if_neg (hx1 ▸ k1_7)] at hq
  exact hq
theorem s_X11_count {Q : Int32 → HP → Prop} (hR : WRep S 20 v) {x : Int32} (hq : Q (countR v (S 0 13) (S 3 1) x) (lay Θ S)) : C Θ d 0 0 yX11_count cX11_count 2 (some .int) [.ref (tb Θ + 0), .int x] 183 (lay Θ S) (Qi Q) := by
  refine C_of rfl rfl (Nat.le_of_ble_eq_true rfl) ?_
  have hw : isW 20 := isW20
  refine E_iload_n dX11_count_0 rfl ?_
  refine E_top (fun x1 hx1 => ?_)
  by_cases k1_0 : x1 = 0
  · refine E_tswI (tgt := 48) dX11_count_1 0 (by rw [k1_0]; decide) (by decide) rfl (by decide) ?_
    refine E_aload_n dX11_count_48 rfl ?_
    refine L_get fX11_83 dX11_count_49 (by decide) sh_0 rfl ?_
    refine W_get (j := 1) (i := 1) hR hw (by decide) fX11_106 dX11_count_52 ?_
    refine E_iret dX11_count_55 rfl rfl ?_
    rw [countR, ← hx1, k1_0, if_pos rfl] at hq
    exact hq
  by_cases k1_1 : x1 = 1
  · refine E_tswI (tgt := 56) dX11_count_1 1 (by rw [k1_1]; decide) (by decide) rfl (by decide) ?_
    refine E_aload_n dX11_count_56 rfl ?_
    refine L_get fX11_83 dX11_count_57 (by decide) sh_0 rfl ?_
    refine W_get (j := 10) (i := 2) hR hw (by decide) fX11_208 dX11_count_60 ?_
    refine E_iret dX11_count_63 rfl rfl ?_
    rw [countR, ← hx1, k1_1, if_neg (by decide), if_pos rfl] at hq
    exact hq
  by_cases k1_2 : x1 = 2
  · refine E_tswI (tgt := 64) dX11_count_1 2 (by rw [k1_2]; decide) (by decide) rfl (by decide) ?_
    refine E_aload_n dX11_count_64 rfl ?_
    refine L_get fX11_83 dX11_count_65 (by decide) sh_0 rfl ?_
    refine W_get (j := 7) (i := 3) hR hw (by decide) fX11_154 dX11_count_68 ?_
    refine E_iret dX11_count_71 rfl rfl ?_
    rw [countR, ← hx1, k1_2, if_neg (by decide), if_neg (by decide), if_pos rfl] at hq
    exact hq
  by_cases k1_3 : x1 = 3
  · refine E_tswI (tgt := 72) dX11_count_1 3 (by rw [k1_3]; decide) (by decide) rfl (by decide) ?_
    refine E_aload_n dX11_count_72 rfl ?_
    refine L_get fX11_83 dX11_count_73 (by decide) sh_0 rfl ?_
    refine W_get (j := 8) (i := 4) hR hw (by decide) fX11_157 dX11_count_76 ?_
    refine E_iret dX11_count_79 rfl rfl ?_
    rw [countR, ← hx1, k1_3, if_neg (by decide), if_neg (by decide), if_neg (by decide), if_pos rfl] at hq
    exact hq
  by_cases k1_4 : x1 = 4
  · refine E_tswI (tgt := 80) dX11_count_1 4 (by rw [k1_4]; decide) (by decide) rfl (by decide) ?_
    refine E_aload_n dX11_count_80 rfl ?_
    refine L_get fX11_83 dX11_count_81 (by decide) sh_0 rfl ?_
    refine W_get (j := 13) (i := 14) hR hw (by decide) fX11_261 dX11_count_84 ?_
    refine E_iret dX11_count_87 rfl rfl ?_
    rw [countR, ← hx1, k1_4, if_neg (by decide), if_neg (by decide), if_neg (by decide), if_neg (by decide), if_pos rfl] at hq
    exact hq
  by_cases k1_5 : x1 = 5
  · refine E_tswI (tgt := 88) dX11_count_1 5 (by rw [k1_5]; decide) (by decide) rfl (by decide) ?_
    refine E_aload_n dX11_count_88 rfl ?_
    refine L_get fX11_323 dX11_count_89 (by decide) sh_0 rfl ?_
    refine E_iret dX11_count_92 rfl rfl ?_
    rw [countR, ← hx1, k1_5, if_neg (by decide), if_neg (by decide), if_neg (by decide), if_neg (by decide), if_neg (by decide), if_pos rfl] at hq
    exact hq
  by_cases k1_6 : x1 = 6
  · refine E_tswI (tgt := 93) dX11_count_1 6 (by rw [k1_6]; decide) (by decide) rfl (by decide) ?_
    refine E_aload_n dX11_count_93 rfl ?_
    refine L_get fX11_24 dX11_count_94 (by decide) sh_0 rfl ?_
    refine L_get fX11_255 dX11_count_97 (by decide) sh_3 rfl ?_
    refine E_iret dX11_count_100 rfl rfl ?_
    rw [countR, ← hx1, k1_6, if_neg (by decide), if_neg (by decide), if_neg (by decide), if_neg (by decide), if_neg (by decide), if_neg (by decide), if_pos rfl] at hq
    exact hq
  by_cases k1_7 : x1 = 7
  · refine E_tswI (tgt := 101) dX11_count_1 7 (by rw [k1_7]; decide) (by decide) rfl (by decide) ?_
    refine E_aload_n dX11_count_101 rfl ?_
    refine L_get fX11_83 dX11_count_102 (by decide) sh_0 rfl ?_
    refine W_get (j := 11) (i := 0) hR hw (by decide) fX11_169 dX11_count_105 ?_
    refine E_iret dX11_count_108 rfl rfl ?_
    rw [countR, ← hx1, k1_7, if_neg (by decide), if_neg (by decide), if_neg (by decide), if_neg (by decide), if_neg (by decide), if_neg (by decide), if_neg (by decide), if_pos rfl] at hq
    exact hq
  refine E_tswO (tgt := 109) dX11_count_1 (by have := ne_toInt (k := 0) (by decide) k1_0; have := ne_toInt (k := 1) (by decide) k1_1; have := ne_toInt (k := 2) (by decide) k1_2; have := ne_toInt (k := 3) (by decide) k1_3; have := ne_toInt (k := 4) (by decide) k1_4; have := ne_toInt (k := 5) (by decide) k1_5; have := ne_toInt (k := 6) (by decide) k1_6; have := ne_toInt (k := 7) (by decide) k1_7; omega) (by decide) ?_
  refine E_ldc dX11_count_109 kX11_105 ?_
  refine E_iret dX11_count_111 rfl rfl ?_
  rw [countR, if_neg (hx1 ▸ k1_0), if_neg (hx1 ▸ k1_1), if_neg (hx1 ▸ k1_2), if_neg (hx1 ▸ k1_3), if_neg (hx1 ▸ k1_4), if_neg (hx1 ▸ k1_5), if_neg (hx1 ▸ k1_6), if_neg (hx1 ▸ k1_7)] at hq
  exact hq
def tellR (n : Nat) : Int32 := if n = 60 then fullC else nI (n + 1)
theorem s_X12_tell {Q : Int32 → HP → Prop} {n : Nat} (hn : S 159 34 = nI n) (h60 : n ≤ 60) {x : Int32} (hq : ∀ S', S' 182 = (if n = 60 then S 182 else upd (S 182) n x) → S' 159 34 = (if n = 60 then nI n else nI (n + 1)) → (∀ j, j ≠ 34 → S' 159 j = S 159 j) → (∀ k, k ≠ 159 → k ≠ 182 → S' k = S k) → Q (tellR n) (lay Θ S')) : C Θ d 0 0 yX12_tell cX12_tell 2 (some .int) [.ref (tb Θ + 159), .int x] 183 (lay Θ S) (Qi Q) := by
  refine C_of rfl rfl (Nat.le_of_ble_eq_true rfl) ?_
  refine E_aload_n dX12_tell_0 rfl ?_
  refine L_get fX12_281 dX12_tell_1 (by decide) sh_159 rfl ?_
  refine E_bipush (v := 60) dX12_tell_4 (by decide) ?_
  refine E_icmp_ne dX12_tell_6 (fun c6 => ?_) (fun c6 => ?_)
  · have n60 : ¬ n = 60 := fun e => c6 (by rw [hn, e]; rfl)
    refine E_aload_n dX12_tell_12 rfl ?_
    refine L_get fX12_78 dX12_tell_13 (by decide) sh_159 rfl ?_
    refine E_aload_n dX12_tell_16 rfl ?_
    refine L_get fX12_281 dX12_tell_17 (by decide) sh_159 rfl ?_
    refine E_iload_n dX12_tell_20 rfl ?_
    refine L_iast (j := n) dX12_tell_21 (by decide) sh_182 hn (by omega) (by decide) ?_
    refine E_aload_n dX12_tell_22 rfl ?_
    refine E_dup dX12_tell_23 rfl ?_
    refine L_get fX12_281 dX12_tell_24 (by decide) sh_159 rfl ?_
    refine E_ic (v := 1) dX12_tell_27 (by decide) ?_
    refine E_iadd dX12_tell_28 ?_
    refine L_puti fX12_281 dX12_tell_29 (by decide) sh_159 (Nat.le_of_ble_eq_true rfl) rfl ?_
    refine E_aload_n dX12_tell_32 rfl ?_
    refine L_get fX12_281 dX12_tell_33 (by decide) sh_159 rfl ?_
    refine E_iret dX12_tell_36 rfl rfl ?_
    simp only [tellR, if_neg (show ¬ n = 60 by omega)] at hq
    rw [wr_at, pk_us, wr_ne (by decide), hn, nI_1]
    exact hq _ (by rw [wr_ne (by decide)]; exact wr_at) (by rw [wr_at, pk_us]) (fun j hj => by rw [wr_at, pk_un hj, wr_ne (by decide)]) (fun k h1 h2 => by rw [wr_ne h1, wr_ne h2])
  · have n60 : n = 60 := nI_inj (by omega) (by omega) (hn.symm.trans c6)
    refine E_ldc dX12_tell_9 kX12_108 ?_
    refine E_iret dX12_tell_11 rfl rfl ?_
    simp only [tellR, if_pos n60] at hq
    exact hq S rfl hn (fun _ _ => rfl) (fun _ _ _ => rfl)
theorem s_X11_tell {Q : Int32 → HP → Prop} {n : Nat} (hn : S 0 13 = nI n) (h60 : n ≤ 60) {x : Int32} (hq : ∀ S', S' 10 = (if n = 60 then S 10 else upd (S 10) n x) → S' 0 13 = (if n = 60 then nI n else nI (n + 1)) → (∀ j, j ≠ 13 → S' 0 j = S 0 j) → (∀ k, k ≠ 0 → k ≠ 10 → S' k = S k) → Q (tellR n) (lay Θ S')) : C Θ d 0 0 yX11_tell cX11_tell 2 (some .int) [.ref (tb Θ + 0), .int x] 183 (lay Θ S) (Qi Q) := by
  refine C_of rfl rfl (Nat.le_of_ble_eq_true rfl) ?_
  refine E_aload_n dX11_tell_0 rfl ?_
  refine L_get fX11_323 dX11_tell_1 (by decide) sh_0 rfl ?_
  refine E_bipush (v := 60) dX11_tell_4 (by decide) ?_
  refine E_icmp_lt dX11_tell_6 (fun c6 => ?_) (fun c6 => ?_)
  · have n60 : n < 60 := (nI_ltI (b := 60) (by omega) (by omega)).mp (hn ▸ c6)
    refine E_aload_n dX11_tell_12 rfl ?_
    refine L_get fX11_50 dX11_tell_13 (by decide) sh_0 rfl ?_
    refine E_aload_n dX11_tell_16 rfl ?_
    refine L_get fX11_323 dX11_tell_17 (by decide) sh_0 rfl ?_
    refine E_iload_n dX11_tell_20 rfl ?_
    refine L_iast (j := n) dX11_tell_21 (by decide) sh_10 hn (by omega) (by decide) ?_
    refine E_aload_n dX11_tell_22 rfl ?_
    refine E_dup dX11_tell_23 rfl ?_
    refine L_get fX11_323 dX11_tell_24 (by decide) sh_0 rfl ?_
    refine E_ic (v := 1) dX11_tell_27 (by decide) ?_
    refine E_iadd dX11_tell_28 ?_
    refine L_puti fX11_323 dX11_tell_29 (by decide) sh_0 (Nat.le_of_ble_eq_true rfl) rfl ?_
    refine E_aload_n dX11_tell_32 rfl ?_
    refine L_get fX11_323 dX11_tell_33 (by decide) sh_0 rfl ?_
    refine E_iret dX11_tell_36 rfl rfl ?_
    simp only [tellR, if_neg (show ¬ n = 60 by omega)] at hq
    rw [wr_at, pk_us, wr_ne (by decide), hn, nI_1]
    exact hq _ (by rw [wr_ne (by decide)]; exact wr_at) (by rw [wr_at, pk_us]) (fun j hj => by rw [wr_at, pk_un hj, wr_ne (by decide)]) (fun k h1 h2 => by rw [wr_ne h1, wr_ne h2])
  · have n60 : n = 60 := by
      have : ¬ n < 60 := fun h => c6 (by rw [hn]; exact nI_lt (b := 60) h (by omega))
      omega
    refine E_ldc dX11_tell_9 kX11_110 ?_
    refine E_iret dX11_tell_11 rfl rfl ?_
    simp only [tellR, if_pos n60] at hq
    exact hq S rfl hn (fun _ _ => rfl) (fun _ _ _ => rfl)
end Ke
