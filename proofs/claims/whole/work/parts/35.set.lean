/-! set, on both sides; thinking of the reference -/
abbrev noo : Int32 := -1000000002
def setR (v : WV) (x z b : Int32) : Int32 × WV := (ix x (mN v)).elim (bad, v) fun p => if z = 1 then (if 0 ≤ b ∧ b ≤ 1 then (if v (16 + 9 * p) = 2 then (noo, v) else (v (16 + 9 * p), upd v (16 + 9 * p) b)) else (bad, v)) else if z = 2 then (if 0 ≤ b ∧ b ≤ 99 then (v (17 + 9 * p), upd v (17 + 9 * p) b) else (bad, v)) else (bad, v)
theorem one_two {z : Int32} (h0 : 1 ≤ z) (h1 : z ≤ 2) (h : ¬ z = 1) : z = 2 := by
  obtain ⟨c, hc, e⟩ := isIx_le (n := 2) (by decide) (Int32.le_trans (by decide) h0) h1
  rw [e] at h0 h
  have := (nI_leI (a := 1) (by omega) (by omega)).mp h0
  rcases (show c = 1 ∨ c = 2 by omega) with rfl | rfl
  · exact absurd rfl h
  · exact e
section Se
variable {Θ : Th} {d : Nat} {S : SS} {v : WV}
theorem s_X12_set {Q : Int32 → HP → Prop} (hv : S 160 = v) {m : Nat} (hm : v 1 = nI m) (hmm : mN v = m) (hm9 : m ≤ 9) {x z b : Int32} (hq : ∀ S', S' 160 = (setR v x z b).2 → MF S S' → Q (setR v x z b).1 (lay Θ S')) : C Θ (d + 2) 0 0 yX12_set cX12_set 4 (some .int) [.ref (tb Θ + 159), .int x, .int z, .int b] 183 (lay Θ S) (Qi Q) := by
  refine C_of rfl rfl (Nat.le_of_ble_eq_true rfl) ?_
  have hm1 : S 160 1 = nI m := by rw [hv]; exact hm
  refine E_aload_n dX12_set_0 rfl ?_
  refine E_iload_n dX12_set_1 rfl ?_
  refine E_V1i vX12_112_12 dX12_set_2 (Nat.le_of_ble_eq_true rfl) (by decide) (sh_159 _) (s_X12_isOne hm1 hm9 (fun g1 => ?_) (fun g1 => ?_))
  · obtain ⟨p, hp, ep, ip⟩ := ix_some (by omega) g1
    refine E_if_eq dX12_set_5 (fun c => absurd c (by decide)) (fun _ => ?_)
    refine E_iload_n dX12_set_8 rfl ?_
    refine E_ic (v := 1) dX12_set_9 (by decide) ?_
    refine E_ic (v := 2) dX12_set_10 (by decide) ?_
    refine E_S3i sX12_81 dX12_set_11 (Nat.le_of_ble_eq_true rfl) (s_X12_in (fun g2a g2b => ?_) (fun g2 => ?_))
    · refine E_if_eq dX12_set_14 (fun c => absurd c (by decide)) (fun _ => ?_)
      refine E_iload_n dX12_set_17 rfl ?_
      refine E_ic (v := 0) dX12_set_18 (by decide) ?_
      refine E_iload_n dX12_set_19 rfl ?_
      refine E_ic (v := 1) dX12_set_20 (by decide) ?_
      refine E_icmp_ne dX12_set_21 (fun c21 => ?_) (fun c21 => ?_)
      · have z2 : z = 2 := one_two g2a g2b c21
        subst z2
        refine E_bipush (v := 99) dX12_set_28 (by decide) ?_
        refine E_S3i sX12_81 dX12_set_30 (Nat.le_of_ble_eq_true rfl) (s_X12_in (fun g3a g3b => ?_) (fun g3 => ?_))
        · refine E_if_ne dX12_set_33 (fun _ => ?_) (fun c => absurd c (by decide))
          refine E_iload_n dX12_set_39 rfl ?_
          refine E_ic (v := 1) dX12_set_40 (by decide) ?_
          refine E_icmp_ne dX12_set_41 (fun _ => ?_) (fun c => absurd c (by decide))
          refine E_aload_n dX12_set_59 rfl ?_
          refine E_bipush (v := 15) dX12_set_60 (by decide) ?_
          refine E_bipush (v := 9) dX12_set_62 (by decide) ?_
          refine E_iload_n dX12_set_64 rfl ?_
          refine E_imul dX12_set_65 ?_
          refine E_iadd dX12_set_66 ?_
          refine E_iload_n dX12_set_67 rfl ?_
          refine E_iadd dX12_set_68 ?_
          refine E_iload_n dX12_set_69 rfl ?_
          refine E_V2i vX12_122_12 dX12_set_70 (Nat.le_of_ble_eq_true rfl) (by decide) (sh_159 _) (s_X12_swaps hv (17 + 9 * p) (by rw [ep]; exact (ofI p 2).trans (congrArg nI (by omega))) (by omega) (fun S70 h70 f70 => ?_))
          refine E_iret dX12_set_73 rfl rfl ?_
          rw [setR, hmm, ip, Option.elim, if_neg (by decide), if_pos rfl, if_pos ⟨g3a, g3b⟩] at hq
          exact hq S70 h70 f70
        · refine E_if_ne dX12_set_33 (fun c => absurd rfl c) (fun _ => ?_)
          refine E_ldc dX12_set_36 kX12_107 ?_
          refine E_iret dX12_set_38 rfl rfl ?_
          rw [setR, hmm, ip, Option.elim, if_neg (by decide), if_pos rfl, if_neg g3] at hq
          exact hq S hv MF.rf
      · subst c21
        refine E_ic (v := 1) dX12_set_24 (by decide) ?_
        refine E_goto dX12_set_25 ?_
        refine E_S3i sX12_81 dX12_set_30 (Nat.le_of_ble_eq_true rfl) (s_X12_in (fun g3a g3b => ?_) (fun g3 => ?_))
        · refine E_if_ne dX12_set_33 (fun _ => ?_) (fun c => absurd c (by decide))
          refine E_iload_n dX12_set_39 rfl ?_
          refine E_ic (v := 1) dX12_set_40 (by decide) ?_
          refine E_icmp_ne dX12_set_41 (fun c => absurd rfl c) (fun _ => ?_)
          refine E_aload_n dX12_set_44 rfl ?_
          refine E_iload_n dX12_set_45 rfl ?_
          refine E_ic (v := 1) dX12_set_46 (by decide) ?_
          refine E_V2i vX12_85_12 dX12_set_47 (Nat.le_of_ble_eq_true rfl) (by decide) (sh_159 _) (s_X12_of hv p 1 (16 + 9 * p) ep rfl (by omega) (by omega) ?_)
          refine E_ic (v := 2) dX12_set_50 (by decide) ?_
          refine E_icmp_ne dX12_set_51 (fun c51 => ?_) (fun c51 => ?_)
          · refine E_aload_n dX12_set_59 rfl ?_
            refine E_bipush (v := 15) dX12_set_60 (by decide) ?_
            refine E_bipush (v := 9) dX12_set_62 (by decide) ?_
            refine E_iload_n dX12_set_64 rfl ?_
            refine E_imul dX12_set_65 ?_
            refine E_iadd dX12_set_66 ?_
            refine E_iload_n dX12_set_67 rfl ?_
            refine E_iadd dX12_set_68 ?_
            refine E_iload_n dX12_set_69 rfl ?_
            refine E_V2i vX12_122_12 dX12_set_70 (Nat.le_of_ble_eq_true rfl) (by decide) (sh_159 _) (s_X12_swaps hv (16 + 9 * p) (by rw [ep]; exact (ofI p 1).trans (congrArg nI (by omega))) (by omega) (fun S70 h70 f70 => ?_))
            refine E_iret dX12_set_73 rfl rfl ?_
            rw [setR, hmm, ip, Option.elim, if_pos rfl, if_pos ⟨g3a, g3b⟩, if_neg c51] at hq
            exact hq S70 h70 f70
          · refine E_ldc dX12_set_54 kX12_130 ?_
            refine E_goto dX12_set_56 ?_
            refine E_iret dX12_set_73 rfl rfl ?_
            rw [setR, hmm, ip, Option.elim, if_pos rfl, if_pos ⟨g3a, g3b⟩, if_pos c51] at hq
            exact hq S hv MF.rf
        · refine E_if_ne dX12_set_33 (fun c => absurd rfl c) (fun _ => ?_)
          refine E_ldc dX12_set_36 kX12_107 ?_
          refine E_iret dX12_set_38 rfl rfl ?_
          rw [setR, hmm, ip, Option.elim, if_pos rfl, if_neg g3] at hq
          exact hq S hv MF.rf
    · refine E_if_eq dX12_set_14 (fun _ => ?_) (fun c => absurd (by decide) c)
      refine E_ldc dX12_set_36 kX12_107 ?_
      refine E_iret dX12_set_38 rfl rfl ?_
      rw [setR, hmm, ip, Option.elim, if_neg (fun h => g2 (by rw [h]; decide)), if_neg (fun h => g2 (by rw [h]; decide))] at hq
      exact hq S hv MF.rf
  · have ip := ix_none (by omega) g1
    refine E_if_eq dX12_set_5 (fun _ => ?_) (fun c => absurd (by decide) c)
    refine E_ldc dX12_set_36 kX12_107 ?_
    refine E_iret dX12_set_38 rfl rfl ?_
    rw [setR, hmm, ip] at hq
    exact hq S hv MF.rf
theorem s_X11_set {Q : Int32 → HP → Prop} (hR : WRep S 20 v) {m : Nat} (hm : v 1 = nI m) (hmm : mN v = m) (hm9 : m ≤ 9) {x z b : Int32} (hq : ∀ S', WRep S' 20 (setR v x z b).2 → WF 20 S S' → Q (setR v x z b).1 (lay Θ S')) : C Θ (d + 2) 0 0 yX11_set cX11_set 6 (some .int) [.ref (tb Θ + 0), .int x, .int z, .int b] 183 (lay Θ S) (Qi Q) := by
  refine C_of rfl rfl (Nat.le_of_ble_eq_true rfl) ?_
  have hw : isW 20 := isW20
  have hm1 : S 20 1 = nI m := (hR.1 (1, 1) (by decide)).trans hm
  refine E_aload_n dX11_set_0 rfl ?_
  refine E_iload_n dX11_set_1 rfl ?_
  refine E_V1i vX11_118_11 dX11_set_2 (Nat.le_of_ble_eq_true rfl) (by decide) (sh_0 _) (s_X11_isOne hm1 hm9 (fun g1 => ?_) (fun g1 => ?_))
  · obtain ⟨p, hp, ep, ip⟩ := ix_some (by omega) g1
    refine E_if_eq dX11_set_5 (fun c => absurd c (by decide)) (fun _ => ?_)
    refine E_iload_n dX11_set_8 rfl ?_
    refine E_ic (v := 1) dX11_set_9 (by decide) ?_
    refine E_ic (v := 2) dX11_set_10 (by decide) ?_
    refine E_S3i sX11_145 dX11_set_11 (Nat.le_of_ble_eq_true rfl) (s_X11_within (fun g2a g2b => ?_) (fun g2 => ?_))
    · refine E_if_eq dX11_set_14 (fun c => absurd c (by decide)) (fun _ => ?_)
      refine E_iload_n dX11_set_17 rfl ?_
      refine E_ic (v := 0) dX11_set_18 (by decide) ?_
      refine E_iload_n dX11_set_19 rfl ?_
      refine E_ic (v := 1) dX11_set_20 (by decide) ?_
      refine E_icmp_ne dX11_set_21 (fun c21 => ?_) (fun c21 => ?_)
      · have z2 : z = 2 := one_two g2a g2b c21
        subst z2
        refine E_bipush (v := 99) dX11_set_28 (by decide) ?_
        refine E_S3i sX11_145 dX11_set_30 (Nat.le_of_ble_eq_true rfl) (s_X11_within (fun g3a g3b => ?_) (fun g3 => ?_))
        · refine E_if_ne dX11_set_33 (fun _ => ?_) (fun c => absurd c (by decide))
          refine E_aload_n dX11_set_39 rfl ?_
          refine L_get fX11_83 dX11_set_40 (by decide) sh_0 rfl ?_
          refine L_get fX11_111 dX11_set_43 (by have := (isW20).lt; omega) (sh_W isW20) rfl ?_
          refine E_iload_n dX11_set_46 rfl ?_
          refine L_aald (j := p) dX11_set_47 (by have := (isW20).lt; omega) (sh_Wc isW20) rfl ep (by omega) (by decide) (if_pos (by omega)) ?_
          refine E_astore dX11_set_48 (by decide) ?_
          refine E_iload_n dX11_set_50 rfl ?_
          refine E_ic (v := 1) dX11_set_51 (by decide) ?_
          refine E_icmp_ne dX11_set_52 (fun _ => ?_) (fun c => absurd c (by decide))
          refine E_aload dX11_set_80 rfl ?_
          refine P_temp (p := p) hR hw hmm hm9 hp fX11_132 dX11_set_82 ?_
          refine E_istore dX11_set_85 (by decide) ?_
          refine E_aload dX11_set_87 rfl ?_
          refine E_iload_n dX11_set_89 rfl ?_
          refine P_put (p := p) (f := 2) hR hw hmm hm9 hp (by decide) fX11_132 dX11_set_90 (fun S90 h90 f90 => ?_)
          refine E_iload dX11_set_93 rfl ?_
          refine E_iret dX11_set_95 rfl rfl ?_
          rw [setR, hmm, ip, Option.elim, if_neg (by decide), if_pos rfl, if_pos ⟨g3a, g3b⟩] at hq
          exact hq _ (WRep_eq h90 (by rw [show 15 + 9 * p + 2 = 17 + 9 * p by omega])) ((WF.rf).tr f90)
        · refine E_if_ne dX11_set_33 (fun c => absurd rfl c) (fun _ => ?_)
          refine E_ldc dX11_set_36 kX11_105 ?_
          refine E_iret dX11_set_38 rfl rfl ?_
          rw [setR, hmm, ip, Option.elim, if_neg (by decide), if_pos rfl, if_neg g3] at hq
          exact hq S hR WF.rf
      · subst c21
        refine E_ic (v := 1) dX11_set_24 (by decide) ?_
        refine E_goto dX11_set_25 ?_
        refine E_S3i sX11_145 dX11_set_30 (Nat.le_of_ble_eq_true rfl) (s_X11_within (fun g3a g3b => ?_) (fun g3 => ?_))
        · refine E_if_ne dX11_set_33 (fun _ => ?_) (fun c => absurd c (by decide))
          refine E_aload_n dX11_set_39 rfl ?_
          refine L_get fX11_83 dX11_set_40 (by decide) sh_0 rfl ?_
          refine L_get fX11_111 dX11_set_43 (by have := (isW20).lt; omega) (sh_W isW20) rfl ?_
          refine E_iload_n dX11_set_46 rfl ?_
          refine L_aald (j := p) dX11_set_47 (by have := (isW20).lt; omega) (sh_Wc isW20) rfl ep (by omega) (by decide) (if_pos (by omega)) ?_
          refine E_astore dX11_set_48 (by decide) ?_
          refine E_iload_n dX11_set_50 rfl ?_
          refine E_ic (v := 1) dX11_set_51 (by decide) ?_
          refine E_icmp_ne dX11_set_52 (fun c => absurd rfl c) (fun _ => ?_)
          refine E_aload dX11_set_55 rfl ?_
          refine P_bank (p := p) hR hw hmm hm9 hp fX11_129 dX11_set_57 ?_
          refine E_istore dX11_set_60 (by decide) ?_
          refine E_iload dX11_set_62 rfl ?_
          refine E_ic (v := 2) dX11_set_64 (by decide) ?_
          refine E_icmp_ne dX11_set_65 (fun c65 => ?_) (fun c65 => ?_)
          · refine E_aload dX11_set_71 rfl ?_
            refine E_iload_n dX11_set_73 rfl ?_
            refine P_put (p := p) (f := 1) hR hw hmm hm9 hp (by decide) fX11_129 dX11_set_74 (fun S74 h74 f74 => ?_)
            refine E_iload dX11_set_77 rfl ?_
            refine E_iret dX11_set_79 rfl rfl ?_
            rw [setR, hmm, ip, Option.elim, if_pos rfl, if_pos ⟨g3a, g3b⟩, if_neg c65] at hq
            exact hq _ (WRep_eq h74 (by rw [show 15 + 9 * p + 1 = 16 + 9 * p by omega])) ((WF.rf).tr f74)
          · refine E_ldc dX11_set_68 kX11_153 ?_
            refine E_iret dX11_set_70 rfl rfl ?_
            rw [setR, hmm, ip, Option.elim, if_pos rfl, if_pos ⟨g3a, g3b⟩, if_pos c65] at hq
            exact hq S hR WF.rf
        · refine E_if_ne dX11_set_33 (fun c => absurd rfl c) (fun _ => ?_)
          refine E_ldc dX11_set_36 kX11_105 ?_
          refine E_iret dX11_set_38 rfl rfl ?_
          rw [setR, hmm, ip, Option.elim, if_pos rfl, if_neg g3] at hq
          exact hq S hR WF.rf
    · refine E_if_eq dX11_set_14 (fun _ => ?_) (fun c => absurd (by decide) c)
      refine E_ldc dX11_set_36 kX11_105 ?_
      refine E_iret dX11_set_38 rfl rfl ?_
      rw [setR, hmm, ip, Option.elim, if_neg (fun h => g2 (by rw [h]; decide)), if_neg (fun h => g2 (by rw [h]; decide))] at hq
      exact hq S hR WF.rf
  · have ip := ix_none (by omega) g1
    refine E_if_eq dX11_set_5 (fun _ => ?_) (fun c => absurd (by decide) c)
    refine E_ldc dX11_set_36 kX11_105 ?_
    refine E_iret dX11_set_38 rfl rfl ?_
    rw [setR, hmm, ip] at hq
    exact hq S hR WF.rf
end Se
