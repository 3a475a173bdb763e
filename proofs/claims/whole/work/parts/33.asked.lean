/-! what is asked of passengers, on both sides -/
abbrev bad : Int32 := -1000000001
def viewR (v : WV) (x z : Int32) : Int32 := (ix x (mN v)).elim bad fun p => (ix z 6).elim bad fun j => v (18 + 9 * p + j)
def belR (v : WV) (x z b : Int32) : Int32 × WV := (ix x (mN v)).elim (bad, v) fun p => (ix z 6).elim (bad, v) fun j => if -3 ≤ b ∧ b ≤ 3 then (v (18 + 9 * p + j), upd v (18 + 9 * p + j) b) else (bad, v)
section Pa
variable {Θ : Th} {d : Nat} {S : SS} {v : WV}
theorem s_X12_view {Q : Int32 → HP → Prop} (hv : S 160 = v) {m : Nat} (hm : v 1 = nI m) (hmm : mN v = m) (hm9 : m ≤ 9) {x z : Int32} (hq : Q (viewR v x z) (lay Θ S)) : C Θ (d + 2) 0 0 yX12_view cX12_view 3 (some .int) [.ref (tb Θ + 159), .int x, .int z] 183 (lay Θ S) (Qi Q) := by
  refine C_of rfl rfl (Nat.le_of_ble_eq_true rfl) ?_
  have hm1 : S 160 1 = nI m := by rw [hv]; exact hm
  refine E_aload_n dX12_view_0 rfl ?_
  refine E_iload_n dX12_view_1 rfl ?_
  refine E_V1i vX12_112_12 dX12_view_2 (Nat.le_of_ble_eq_true rfl) (by decide) (sh_159 _) (s_X12_isOne hm1 hm9 (fun g1 => ?_) (fun g1 => ?_))
  · obtain ⟨p, hp, ep, ip⟩ := ix_some (by omega) g1
    refine E_if_eq dX12_view_5 (fun c => absurd c (by decide)) (fun _ => ?_)
    refine E_iload_n dX12_view_8 rfl ?_
    refine E_S1i sX12_119 dX12_view_9 (Nat.le_of_ble_eq_true rfl) (s_X12_isMatter (fun g2 => ?_) (fun g2 => ?_))
    · obtain ⟨j, hj, ej, ij⟩ := ix_some (by omega) g2
      refine E_if_eq dX12_view_12 (fun c => absurd c (by decide)) (fun _ => ?_)
      refine E_aload_n dX12_view_15 rfl ?_
      refine E_iload_n dX12_view_16 rfl ?_
      refine E_ic (v := 3) dX12_view_17 (by decide) ?_
      refine E_iload_n dX12_view_18 rfl ?_
      refine E_iadd dX12_view_19 ?_
      refine E_V2i vX12_85_12 dX12_view_20 (Nat.le_of_ble_eq_true rfl) (by decide) (sh_159 _) (s_X12_of hv p (3 + j) (18 + 9 * p + j) ep (by rw [ej]; exact nI_add 3 j) (by omega) (by omega) ?_)
      refine E_goto dX12_view_23 ?_
      refine E_iret dX12_view_28 rfl rfl ?_
      rw [viewR, hmm, ip, Option.elim, ij] at hq
      exact hq
    · have ij := ix_none (by omega) g2
      refine E_if_eq dX12_view_12 (fun _ => ?_) (fun c => absurd (by decide) c)
      refine E_ldc dX12_view_26 kX12_107 ?_
      refine E_iret dX12_view_28 rfl rfl ?_
      rw [viewR, hmm, ip, Option.elim, ij] at hq
      exact hq
  · have ip := ix_none (by omega) g1
    refine E_if_eq dX12_view_5 (fun _ => ?_) (fun c => absurd (by decide) c)
    refine E_ldc dX12_view_26 kX12_107 ?_
    refine E_iret dX12_view_28 rfl rfl ?_
    rw [viewR, hmm, ip] at hq
    exact hq
theorem s_X11_view {Q : Int32 → HP → Prop} (hR : WRep S 20 v) {m : Nat} (hm : v 1 = nI m) (hmm : mN v = m) (hm9 : m ≤ 9) {x z : Int32} (hq : Q (viewR v x z) (lay Θ S)) : C Θ (d + 2) 0 0 yX11_view cX11_view 3 (some .int) [.ref (tb Θ + 0), .int x, .int z] 183 (lay Θ S) (Qi Q) := by
  refine C_of rfl rfl (Nat.le_of_ble_eq_true rfl) ?_
  have hw : isW 20 := isW20
  have hm1 : S 20 1 = nI m := (hR.1 (1, 1) (by decide)).trans hm
  refine E_aload_n dX11_view_0 rfl ?_
  refine E_iload_n dX11_view_1 rfl ?_
  refine E_V1i vX11_118_11 dX11_view_2 (Nat.le_of_ble_eq_true rfl) (by decide) (sh_0 _) (s_X11_isOne hm1 hm9 (fun g1 => ?_) (fun g1 => ?_))
  · obtain ⟨p, hp, ep, ip⟩ := ix_some (by omega) g1
    refine E_if_eq dX11_view_5 (fun c => absurd c (by decide)) (fun _ => ?_)
    refine E_iload_n dX11_view_8 rfl ?_
    refine E_S1i sX11_139 dX11_view_9 (Nat.le_of_ble_eq_true rfl) (s_X11_isMatter (fun g2 => ?_) (fun g2 => ?_))
    · obtain ⟨j, hj, ej, ij⟩ := ix_some (by omega) g2
      refine E_if_ne dX11_view_12 (fun _ => ?_) (fun c => absurd c (by decide))
      refine E_aload_n dX11_view_18 rfl ?_
      refine L_get fX11_83 dX11_view_19 (by decide) sh_0 rfl ?_
      refine L_get fX11_111 dX11_view_22 (by have := (isW20).lt; omega) (sh_W isW20) rfl ?_
      refine E_iload_n dX11_view_25 rfl ?_
      refine L_aald (j := p) dX11_view_26 (by have := (isW20).lt; omega) (sh_Wc isW20) rfl ep (by omega) (by decide) (if_pos (by omega)) ?_
      refine P_views (p := p) hw (by omega) fX11_142 dX11_view_27 ?_
      refine E_iload_n dX11_view_30 rfl ?_
      refine V_get (p := p) (j := j) hR hw hmm hm9 hp dX11_view_31 ej hj ?_
      refine E_iret dX11_view_32 rfl rfl ?_
      rw [viewR, hmm, ip, Option.elim, ij] at hq
      exact hq
    · have ij := ix_none (by omega) g2
      refine E_if_ne dX11_view_12 (fun c => absurd rfl c) (fun _ => ?_)
      refine E_ldc dX11_view_15 kX11_105 ?_
      refine E_iret dX11_view_17 rfl rfl ?_
      rw [viewR, hmm, ip, Option.elim, ij] at hq
      exact hq
  · have ip := ix_none (by omega) g1
    refine E_if_eq dX11_view_5 (fun _ => ?_) (fun c => absurd (by decide) c)
    refine E_ldc dX11_view_15 kX11_105 ?_
    refine E_iret dX11_view_17 rfl rfl ?_
    rw [viewR, hmm, ip] at hq
    exact hq
theorem s_X12_seed {Q : Int32 → HP → Prop} (hv : S 160 = v) {x : Int32} (hq : ∀ S', S' 160 = upd v 0 x → MF S S' → Q (v 0) (lay Θ S')) : C Θ (d + 1) 0 0 yX12_seed cX12_seed 2 (some .int) [.ref (tb Θ + 159), .int x] 183 (lay Θ S) (Qi Q) := by
  refine C_of rfl rfl (Nat.le_of_ble_eq_true rfl) ?_
  refine E_aload_n dX12_seed_0 rfl ?_
  refine E_ic (v := 0) dX12_seed_1 (by decide) ?_
  refine E_iload_n dX12_seed_2 rfl ?_
  refine E_V2i vX12_122_12 dX12_seed_3 (Nat.le_of_ble_eq_true rfl) (by decide) (sh_159 _) (s_X12_swaps hv 0 rfl (by omega) (fun S3 h3 f3 => ?_))
  refine E_iret dX12_seed_6 rfl rfl ?_
  exact hq S3 h3 f3
theorem s_X11_seed {Q : Int32 → HP → Prop} (hR : WRep S 20 v) {x : Int32} (hq : ∀ S', WRep S' 20 (upd v 0 x) → WF 20 S S' → Q (v 0) (lay Θ S')) : C Θ d 0 0 yX11_seed cX11_seed 3 (some .int) [.ref (tb Θ + 0), .int x] 183 (lay Θ S) (Qi Q) := by
  refine C_of rfl rfl (Nat.le_of_ble_eq_true rfl) ?_
  have hw : isW 20 := isW20
  refine E_aload_n dX11_seed_0 rfl ?_
  refine L_get fX11_83 dX11_seed_1 (by decide) sh_0 rfl ?_
  refine W_get (j := 11) (i := 0) hR hw (by decide) fX11_169 dX11_seed_4 ?_
  refine E_istore_n dX11_seed_7 (by decide) ?_
  refine E_aload_n dX11_seed_8 rfl ?_
  refine L_get fX11_83 dX11_seed_9 (by decide) sh_0 rfl ?_
  refine E_iload_n dX11_seed_12 rfl ?_
  refine W_put (j := 11) (i := 0) hR hw (by decide) fX11_169 dX11_seed_13 (fun S13 h13 f13 => ?_)
  refine E_iload_n dX11_seed_16 rfl ?_
  refine E_iret dX11_seed_17 rfl rfl ?_
  exact hq _ h13 ((WF.rf).tr f13)
theorem spI {x z : Int32} {p j : Nat} (ep : x = nI p) (ej : z = nI j) : 15 + 9 * x + 3 + z = nI (18 + 9 * p + j) := by
  rw [ep, ej]
  exact (congrArg (· + nI j) (ofI p 3)).trans ((nI_add (15 + 9 * p + 3) j).trans (congrArg nI (by omega)))
theorem s_X12_believes {Q : Int32 → HP → Prop} (hv : S 160 = v) {m : Nat} (hm : v 1 = nI m) (hmm : mN v = m) (hm9 : m ≤ 9) {x z b : Int32} (hq : ∀ S', S' 160 = (belR v x z b).2 → MF S S' → Q (belR v x z b).1 (lay Θ S')) : C Θ (d + 2) 0 0 yX12_believes cX12_believes 4 (some .int) [.ref (tb Θ + 159), .int x, .int z, .int b] 183 (lay Θ S) (Qi Q) := by
  refine C_of rfl rfl (Nat.le_of_ble_eq_true rfl) ?_
  have hm1 : S 160 1 = nI m := by rw [hv]; exact hm
  refine E_aload_n dX12_believes_0 rfl ?_
  refine E_iload_n dX12_believes_1 rfl ?_
  refine E_V1i vX12_112_12 dX12_believes_2 (Nat.le_of_ble_eq_true rfl) (by decide) (sh_159 _) (s_X12_isOne hm1 hm9 (fun g1 => ?_) (fun g1 => ?_))
  · obtain ⟨p, hp, ep, ip⟩ := ix_some (by omega) g1
    refine E_if_eq dX12_believes_5 (fun c => absurd c (by decide)) (fun _ => ?_)
    refine E_iload_n dX12_believes_8 rfl ?_
    refine E_S1i sX12_119 dX12_believes_9 (Nat.le_of_ble_eq_true rfl) (s_X12_isMatter (fun g2 => ?_) (fun g2 => ?_))
    · obtain ⟨j, hj, ej, ij⟩ := ix_some (by omega) g2
      refine E_if_eq dX12_believes_12 (fun c => absurd c (by decide)) (fun _ => ?_)
      refine E_iload_n dX12_believes_15 rfl ?_
      refine E_bipush (v := (-3)) dX12_believes_16 (by decide) ?_
      refine E_ic (v := 3) dX12_believes_18 (by decide) ?_
      refine E_S3i sX12_81 dX12_believes_19 (Nat.le_of_ble_eq_true rfl) (s_X12_in (fun g3a g3b => ?_) (fun g3 => ?_))
      · refine E_if_eq dX12_believes_22 (fun c => absurd c (by decide)) (fun _ => ?_)
        refine E_aload_n dX12_believes_25 rfl ?_
        refine E_bipush (v := 15) dX12_believes_26 (by decide) ?_
        refine E_bipush (v := 9) dX12_believes_28 (by decide) ?_
        refine E_iload_n dX12_believes_30 rfl ?_
        refine E_imul dX12_believes_31 ?_
        refine E_iadd dX12_believes_32 ?_
        refine E_ic (v := 3) dX12_believes_33 (by decide) ?_
        refine E_iadd dX12_believes_34 ?_
        refine E_iload_n dX12_believes_35 rfl ?_
        refine E_iadd dX12_believes_36 ?_
        refine E_iload_n dX12_believes_37 rfl ?_
        refine E_V2i vX12_122_12 dX12_believes_38 (Nat.le_of_ble_eq_true rfl) (by decide) (sh_159 _) (s_X12_swaps hv (18 + 9 * p + j) (spI ep ej) (by omega) (fun S38 h38 f38 => ?_))
        refine E_goto dX12_believes_41 ?_
        refine E_iret dX12_believes_46 rfl rfl ?_
        rw [belR, hmm, ip, Option.elim, ij, Option.elim, if_pos ⟨g3a, g3b⟩] at hq
        exact hq S38 h38 f38
      · refine E_if_eq dX12_believes_22 (fun _ => ?_) (fun c => absurd (by decide) c)
        refine E_ldc dX12_believes_44 kX12_107 ?_
        refine E_iret dX12_believes_46 rfl rfl ?_
        rw [belR, hmm, ip, Option.elim, ij, Option.elim, if_neg g3] at hq
        exact hq S hv MF.rf
    · have ij := ix_none (by omega) g2
      refine E_if_eq dX12_believes_12 (fun _ => ?_) (fun c => absurd (by decide) c)
      refine E_ldc dX12_believes_44 kX12_107 ?_
      refine E_iret dX12_believes_46 rfl rfl ?_
      rw [belR, hmm, ip, Option.elim, ij] at hq
      exact hq S hv MF.rf
  · have ip := ix_none (by omega) g1
    refine E_if_eq dX12_believes_5 (fun _ => ?_) (fun c => absurd (by decide) c)
    refine E_ldc dX12_believes_44 kX12_107 ?_
    refine E_iret dX12_believes_46 rfl rfl ?_
    rw [belR, hmm, ip] at hq
    exact hq S hv MF.rf
theorem s_X11_believes {Q : Int32 → HP → Prop} (hR : WRep S 20 v) {m : Nat} (hm : v 1 = nI m) (hmm : mN v = m) (hm9 : m ≤ 9) {x z b : Int32} (hq : ∀ S', WRep S' 20 (belR v x z b).2 → WF 20 S S' → Q (belR v x z b).1 (lay Θ S')) : C Θ (d + 2) 0 0 yX11_believes cX11_believes 6 (some .int) [.ref (tb Θ + 0), .int x, .int z, .int b] 183 (lay Θ S) (Qi Q) := by
  refine C_of rfl rfl (Nat.le_of_ble_eq_true rfl) ?_
  have hw : isW 20 := isW20
  have hm1 : S 20 1 = nI m := (hR.1 (1, 1) (by decide)).trans hm
  refine E_aload_n dX11_believes_0 rfl ?_
  refine E_iload_n dX11_believes_1 rfl ?_
  refine E_V1i vX11_118_11 dX11_believes_2 (Nat.le_of_ble_eq_true rfl) (by decide) (sh_0 _) (s_X11_isOne hm1 hm9 (fun g1 => ?_) (fun g1 => ?_))
  · obtain ⟨p, hp, ep, ip⟩ := ix_some (by omega) g1
    refine E_if_eq dX11_believes_5 (fun c => absurd c (by decide)) (fun _ => ?_)
    refine E_iload_n dX11_believes_8 rfl ?_
    refine E_S1i sX11_139 dX11_believes_9 (Nat.le_of_ble_eq_true rfl) (s_X11_isMatter (fun g2 => ?_) (fun g2 => ?_))
    · obtain ⟨j, hj, ej, ij⟩ := ix_some (by omega) g2
      refine E_if_eq dX11_believes_12 (fun c => absurd c (by decide)) (fun _ => ?_)
      refine E_iload_n dX11_believes_15 rfl ?_
      refine E_bipush (v := (-3)) dX11_believes_16 (by decide) ?_
      refine E_ic (v := 3) dX11_believes_18 (by decide) ?_
      refine E_S3i sX11_145 dX11_believes_19 (Nat.le_of_ble_eq_true rfl) (s_X11_within (fun g3a g3b => ?_) (fun g3 => ?_))
      · refine E_if_ne dX11_believes_22 (fun _ => ?_) (fun c => absurd c (by decide))
        refine E_aload_n dX11_believes_28 rfl ?_
        refine L_get fX11_83 dX11_believes_29 (by decide) sh_0 rfl ?_
        refine L_get fX11_111 dX11_believes_32 (by have := (isW20).lt; omega) (sh_W isW20) rfl ?_
        refine E_iload_n dX11_believes_35 rfl ?_
        refine L_aald (j := p) dX11_believes_36 (by have := (isW20).lt; omega) (sh_Wc isW20) rfl ep (by omega) (by decide) (if_pos (by omega)) ?_
        refine E_astore dX11_believes_37 (by decide) ?_
        refine E_aload dX11_believes_39 rfl ?_
        refine P_views (p := p) hw (by omega) fX11_142 dX11_believes_41 ?_
        refine E_iload_n dX11_believes_44 rfl ?_
        refine V_get (p := p) (j := j) hR hw hmm hm9 hp dX11_believes_45 ej hj ?_
        refine E_istore dX11_believes_46 (by decide) ?_
        refine E_aload dX11_believes_48 rfl ?_
        refine P_views (p := p) hw (by omega) fX11_142 dX11_believes_50 ?_
        refine E_iload_n dX11_believes_53 rfl ?_
        refine E_iload_n dX11_believes_54 rfl ?_
        refine V_put (p := p) (j := j) hR hw hmm hm9 hp dX11_believes_55 ej hj (fun S55 h55 f55 => ?_)
        refine E_iload dX11_believes_56 rfl ?_
        refine E_iret dX11_believes_58 rfl rfl ?_
        rw [belR, hmm, ip, Option.elim, ij, Option.elim, if_pos ⟨g3a, g3b⟩] at hq
        exact hq _ h55 ((WF.rf).tr f55)
      · refine E_if_ne dX11_believes_22 (fun c => absurd rfl c) (fun _ => ?_)
        refine E_ldc dX11_believes_25 kX11_105 ?_
        refine E_iret dX11_believes_27 rfl rfl ?_
        rw [belR, hmm, ip, Option.elim, ij, Option.elim, if_neg g3] at hq
        exact hq S hR WF.rf
    · have ij := ix_none (by omega) g2
      refine E_if_eq dX11_believes_12 (fun _ => ?_) (fun c => absurd (by decide) c)
      refine E_ldc dX11_believes_25 kX11_105 ?_
      refine E_iret dX11_believes_27 rfl rfl ?_
      rw [belR, hmm, ip, Option.elim, ij] at hq
      exact hq S hR WF.rf
  · have ip := ix_none (by omega) g1
    refine E_if_eq dX11_believes_5 (fun _ => ?_) (fun c => absurd (by decide) c)
    refine E_ldc dX11_believes_25 kX11_105 ?_
    refine E_iret dX11_believes_27 rfl rfl ?_
    rw [belR, hmm, ip] at hq
    exact hq S hR WF.rf
def ruleR (v : WV) (x b : Int32) : Int32 × WV := if x = 0 ∧ 0 ≤ b ∧ b ≤ 9 then (v 3, upd v 3 b) else if x = 1 ∧ 1 ≤ b ∧ b ≤ 99 then (v 4, upd v 4 b) else (bad, v)
theorem two_ix {x : Int32} (h0 : 0 ≤ x) (h1 : x ≤ 1) : x = 0 ∨ x = 1 := by
  obtain ⟨c, hc, e⟩ := isIx_le (n := 1) (by decide) h0 h1
  rcases (show c = 0 ∨ c = 1 by omega) with rfl | rfl
  · exact Or.inl e
  · exact Or.inr e
def ferryR (v : WV) (x : Int32) : Int32 := if x = 5 then teF v (mN v) else if 0 ≤ x ∧ x ≤ 4 then stF v x else bad
theorem s_X11_ferry {Q : Int32 → HP → Prop} (hR : WRep S 20 v) {m : Nat} (hm : v 1 = nI m) (hmm : mN v = m) (hm9 : m ≤ 9) {x : Int32} (hq : Q (ferryR v x) (lay Θ S)) : C Θ (d + 2) 0 0 yX11_ferry cX11_ferry 2 (some .int) [.ref (tb Θ + 0), .int x] 183 (lay Θ S) (Qi Q) := by
  refine C_of rfl rfl (Nat.le_of_ble_eq_true rfl) ?_
  have hw : isW 20 := isW20
  have hm1 : S 20 1 = nI m := (hR.1 (1, 1) (by decide)).trans hm
  refine E_iload_n dX11_ferry_0 rfl ?_
  refine E_ic (v := 5) dX11_ferry_1 (by decide) ?_
  refine E_icmp_ne dX11_ferry_2 (fun c2 => ?_) (fun c2 => ?_)
  · refine E_iload_n dX11_ferry_13 rfl ?_
    refine E_ic (v := 0) dX11_ferry_14 (by decide) ?_
    refine E_ic (v := 4) dX11_ferry_15 (by decide) ?_
    refine E_S3i sX11_145 dX11_ferry_16 (Nat.le_of_ble_eq_true rfl) (s_X11_within (fun g1a g1b => ?_) (fun g1 => ?_))
    · refine E_if_eq dX11_ferry_19 (fun c => absurd c (by decide)) (fun _ => ?_)
      refine E_aload_n dX11_ferry_22 rfl ?_
      refine L_get fX11_83 dX11_ferry_23 (by decide) sh_0 rfl ?_
      refine E_iload_n dX11_ferry_26 rfl ?_
      refine E_V1i vX11_217_10 dX11_ferry_27 (Nat.le_of_ble_eq_true rfl) (by have := (isW20).lt; omega) ((sh_W isW20) _) (s_X10_standing hw hR hmm hm9 hm ?_)
      refine E_goto dX11_ferry_30 ?_
      refine E_iret dX11_ferry_35 rfl rfl ?_
      rw [ferryR, if_neg c2, if_pos ⟨g1a, g1b⟩] at hq
      exact hq
    · refine E_if_eq dX11_ferry_19 (fun _ => ?_) (fun c => absurd (by decide) c)
      refine E_ldc dX11_ferry_33 kX11_105 ?_
      refine E_iret dX11_ferry_35 rfl rfl ?_
      rw [ferryR, if_neg c2, if_neg g1] at hq
      exact hq
  · refine E_aload_n dX11_ferry_5 rfl ?_
    refine L_get fX11_83 dX11_ferry_6 (by decide) sh_0 rfl ?_
    refine E_V0i vX11_214_10 dX11_ferry_9 (Nat.le_of_ble_eq_true rfl) (by have := (isW20).lt; omega) ((sh_W isW20) _) (s_X10_heatOfAll hw hR hmm hm9 hm ?_)
    refine E_iret dX11_ferry_12 rfl rfl ?_
    rw [ferryR, if_pos c2] at hq
    exact hq
theorem le3 {x : Int32} (h0 : 0 ≤ x) (h1 : x ≤ 4) (h : ¬ x = 4) : x ≤ 3 := by
  obtain ⟨c, hc, e⟩ := isIx_le (n := 4) (by decide) h0 h1
  rw [e]
  refine nI_le (b := 3) ?_ (by omega)
  rcases Nat.lt_or_ge c 4 with h4 | h4
  · omega
  · exact absurd (by rw [e, show c = 4 by omega]; rfl) h
theorem s_X12_ferry {Q : Int32 → HP → Prop} (hv : S 160 = v) {m : Nat} (hm : v 1 = nI m) (hmm : mN v = m) (hm9 : m ≤ 9) {x : Int32} (hq : Q (ferryR v x) (lay Θ S)) : C Θ (d + 2) 0 0 yX12_ferry cX12_ferry 2 (some .int) [.ref (tb Θ + 159), .int x] 183 (lay Θ S) (Qi Q) := by
  refine C_of rfl rfl (Nat.le_of_ble_eq_true rfl) ?_
  have hm1 : S 160 1 = nI m := by rw [hv]; exact hm
  refine E_iload_n dX12_ferry_0 rfl ?_
  refine E_ic (v := 4) dX12_ferry_1 (by decide) ?_
  refine E_icmp_ne dX12_ferry_2 (fun c2 => ?_) (fun c2 => ?_)
  · refine E_iload_n dX12_ferry_10 rfl ?_
    refine E_ic (v := 5) dX12_ferry_11 (by decide) ?_
    refine E_icmp_ne dX12_ferry_12 (fun c12 => ?_) (fun c12 => ?_)
    · refine E_iload_n dX12_ferry_22 rfl ?_
      refine E_ic (v := 0) dX12_ferry_23 (by decide) ?_
      refine E_ic (v := 3) dX12_ferry_24 (by decide) ?_
      refine E_S3i sX12_81 dX12_ferry_25 (Nat.le_of_ble_eq_true rfl) (s_X12_in (fun g1a g1b => ?_) (fun g1 => ?_))
      · obtain ⟨j, hj, ej, ij⟩ := ix_some (by omega) (isIx_le (n := 3) (by decide) g1a g1b)
        refine E_if_eq dX12_ferry_28 (fun c => absurd c (by decide)) (fun _ => ?_)
        refine E_aload_n dX12_ferry_31 rfl ?_
        refine L_get fX12_9 dX12_ferry_32 (by decide) sh_159 rfl ?_
        refine E_bipush (v := 10) dX12_ferry_35 (by decide) ?_
        refine E_iload_n dX12_ferry_37 rfl ?_
        refine E_iadd dX12_ferry_38 ?_
        refine N_iald (j := 10 + j) dX12_ferry_39 (by rw [ej]; exact nI_add 10 j) (by omega) hv ?_
        refine E_goto dX12_ferry_40 ?_
        refine E_iret dX12_ferry_45 rfl rfl ?_
        rw [ferryR, if_neg c12, if_pos ⟨g1a, Int32.le_trans g1b (by decide)⟩, stF, if_pos ⟨g1a, g1b⟩, ej, nI_clamp (by omega)] at hq
        exact hq
      · refine E_if_eq dX12_ferry_28 (fun _ => ?_) (fun c => absurd (by decide) c)
        refine E_ldc dX12_ferry_43 kX12_107 ?_
        refine E_iret dX12_ferry_45 rfl rfl ?_
        rw [ferryR, if_neg c12, if_neg (fun h => g1 ⟨h.1, le3 h.1 h.2 c2⟩)] at hq
        exact hq
    · refine E_aload_n dX12_ferry_15 rfl ?_
      refine E_V0i vX12_174_12 dX12_ferry_16 (Nat.le_of_ble_eq_true rfl) (by decide) (sh_159 _) (s_X12_tempers hv hm hm9 ?_)
      refine E_goto dX12_ferry_19 ?_
      refine E_iret dX12_ferry_45 rfl rfl ?_
      rw [ferryR, if_pos c12] at hq
      exact hq
  · refine E_aload_n dX12_ferry_5 rfl ?_
    refine E_V0i vX12_171_12 dX12_ferry_6 (Nat.le_of_ble_eq_true rfl) (by decide) (sh_159 _) (s_X12_across hv hm hm9 ?_)
    refine E_iret dX12_ferry_9 rfl rfl ?_
    rw [ferryR, c2, if_neg (by decide), if_pos (by decide), stF, if_neg (by decide)] at hq
    exact hq
end Pa
