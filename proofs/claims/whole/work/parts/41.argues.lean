/-! argues, on both sides -/
def arguesR (v : WV) (x y z w : Int32) : Int32 := (ix x (mN v)).elim bad fun p => (ix y (mN v)).elim bad fun o => if x = y then bad else (ix z 6).elim bad fun j => (ix w 4).elim bad fun k => if k = 0 then apV v p o j else if k = 1 then spV v p o j else if k = 2 then htV v p o j else shV v p o j
theorem ar_no {x y : Int32} {m : Nat} {F : Nat → Nat → Int32} (hm : m ≤ 9) (h : ¬ (isIx x m ∧ isIx y m ∧ ¬ x = y)) : ((ix x m).elim bad fun p => (ix y m).elim bad fun o => if x = y then bad else F p o) = bad := by
  by_cases h1 : isIx x m
  · obtain ⟨p, hp, ep, ip⟩ := ix_some (by omega) h1
    by_cases h2 : isIx y m
    · obtain ⟨q, hq, eq, iq⟩ := ix_some (by omega) h2
      by_cases h3 : x = y
      · rw [ip, Option.elim, iq, Option.elim, if_pos h3]
      · exact absurd ⟨h1, h2, h3⟩ h
    · rw [ip, Option.elim, ix_none (by omega) h2] <;> rfl
  · rw [ix_none (by omega) h1] <;> rfl
section Ag
variable {Θ : Th} {d : Nat} {S : SS} {v : WV}
theorem s_X12_argues {Q : Int32 → HP → Prop} (hv : S 160 = v) {m : Nat} (hm : v 1 = nI m) (hmm : mN v = m) (hm9 : m ≤ 9) (ok : IC v m) {x y z w : Int32} (hq : ∀ S', S' 160 = v → MF S S' → Q (arguesR v x y z w) (lay Θ S')) : C Θ (d + 3) 0 0 yX12_argues cX12_argues 5 (some .int) [.ref (tb Θ + 159), .int x, .int y, .int z, .int w] 183 (lay Θ S) (Qi Q) := by
  refine C_of rfl rfl (Nat.le_of_ble_eq_true rfl) ?_
  obtain ⟨tn, htn14, htn, hok⟩ := ok.2.2.2.2
  have hm1 : S 160 1 = nI m := by rw [hv]; exact hm
  refine E_aload_n dX12_argues_0 rfl ?_
  refine E_iload_n dX12_argues_1 rfl ?_
  refine E_iload_n dX12_argues_2 rfl ?_
  refine E_V2i vX12_137_12 dX12_argues_3 (Nat.le_of_ble_eq_true rfl) (by decide) (sh_159 _) (s_X12_areTwo hm1 hm9 (fun ga gb gn => ?_) (fun gt => ?_))
  · refine E_if_eq dX12_argues_6 (fun c => absurd c (by decide)) (fun _ => ?_)
    obtain ⟨p, hp, ep, ip⟩ := ix_some (by omega) ga
    obtain ⟨o, ho, eo, io⟩ := ix_some (by omega) gb
    refine E_iload_n dX12_argues_9 rfl ?_
    refine E_S1i sX12_119 dX12_argues_10 (Nat.le_of_ble_eq_true rfl) (s_X12_isMatter (fun g2 => ?_) (fun g2 => ?_))
    · obtain ⟨j, hj, ej, ij⟩ := ix_some (by omega) g2
      refine E_if_eq dX12_argues_13 (fun c => absurd c (by decide)) (fun _ => ?_)
      refine E_iload dX12_argues_16 rfl ?_
      refine E_ic (v := 0) dX12_argues_18 (by decide) ?_
      refine E_ic (v := 3) dX12_argues_19 (by decide) ?_
      refine E_S3i sX12_81 dX12_argues_20 (Nat.le_of_ble_eq_true rfl) (s_X12_in (fun g2a g2b => ?_) (fun g2 => ?_))
      · obtain ⟨k, hk4, ek, ik⟩ := ix_some (by omega) (isIx_le (n := 3) (by decide) g2a g2b)
        refine E_if_ne dX12_argues_23 (fun _ => ?_) (fun c => absurd c (by decide))
        refine E_iload dX12_argues_29 rfl ?_
        refine E_if_ne dX12_argues_31 (fun c31 => ?_) (fun c31 => ?_)
        · refine E_iload dX12_argues_44 rfl ?_
          refine E_ic (v := 1) dX12_argues_46 (by decide) ?_
          refine E_icmp_ne dX12_argues_47 (fun c47 => ?_) (fun c47 => ?_)
          · refine E_iload dX12_argues_60 rfl ?_
            refine E_ic (v := 2) dX12_argues_62 (by decide) ?_
            refine E_icmp_ne dX12_argues_63 (fun c63 => ?_) (fun c63 => ?_)
            · refine E_aload_n dX12_argues_76 rfl ?_
              refine E_iload_n dX12_argues_77 rfl ?_
              refine E_iload_n dX12_argues_78 rfl ?_
              refine E_iload_n dX12_argues_79 rfl ?_
              refine E_V3i vX12_146_12 dX12_argues_80 (Nat.le_of_ble_eq_true rfl) (by decide) (sh_159 _) (s_X12_shifts hv p o j ep eo ej (by omega) (by omega) hj ?_)
              refine E_iret dX12_argues_83 rfl rfl ?_
              have k0 : ¬ k = 0 := fun e => c31 (by rw [ek, e]; rfl)
              have k1 : ¬ k = 1 := fun e => c47 (by rw [ek, e]; rfl)
              have k2 : ¬ k = 2 := fun e => c63 (by rw [ek, e]; rfl)
              rw [arguesR, hmm, ip, Option.elim, io, Option.elim, if_neg gn, ij, Option.elim, ik, Option.elim, if_neg k0, if_neg k1, if_neg k2] at hq
              exact hq S hv MF.rf
            · refine E_aload_n dX12_argues_66 rfl ?_
              refine E_iload_n dX12_argues_67 rfl ?_
              refine E_iload_n dX12_argues_68 rfl ?_
              refine E_iload_n dX12_argues_69 rfl ?_
              refine E_V3i vX12_143_12 dX12_argues_70 (Nat.le_of_ble_eq_true rfl) (by decide) (sh_159 _) (s_X12_heats hv p o j ep eo ej (by omega) (by omega) hj ?_)
              refine E_goto dX12_argues_73 ?_
              refine E_iret dX12_argues_83 rfl rfl ?_
              have kk : k = 2 := nI_inj (by omega) (by omega) (ek.symm.trans c63)
              rw [arguesR, hmm, ip, Option.elim, io, Option.elim, if_neg gn, ij, Option.elim, ik, Option.elim, if_neg (by omega), if_neg (by omega), if_pos kk] at hq
              exact hq S hv MF.rf
          · refine E_aload_n dX12_argues_50 rfl ?_
            refine E_iload_n dX12_argues_51 rfl ?_
            refine E_iload_n dX12_argues_52 rfl ?_
            refine E_iload_n dX12_argues_53 rfl ?_
            refine E_V3i vX12_140_12 dX12_argues_54 (Nat.le_of_ble_eq_true rfl) (by decide) (sh_159 _) (s_X12_speaks hv htn htn14 hok p o j ep eo ej (by omega) (by omega) hj (fun S54 h54 f54 => ?_))
            refine E_goto dX12_argues_57 ?_
            refine E_iret dX12_argues_83 rfl rfl ?_
            have kk : k = 1 := nI_inj (by omega) (by omega) (ek.symm.trans c47)
            rw [arguesR, hmm, ip, Option.elim, io, Option.elim, if_neg gn, ij, Option.elim, ik, Option.elim, if_neg (by omega), if_pos kk] at hq
            exact hq S54 h54 f54
        · refine E_aload_n dX12_argues_34 rfl ?_
          refine E_iload_n dX12_argues_35 rfl ?_
          refine E_iload_n dX12_argues_36 rfl ?_
          refine E_iload_n dX12_argues_37 rfl ?_
          refine E_V3i vX12_89_12 dX12_argues_38 (Nat.le_of_ble_eq_true rfl) (by decide) (sh_159 _) (s_X12_apart hv p o j ep eo ej (by omega) (by omega) hj ?_)
          refine E_goto dX12_argues_41 ?_
          refine E_iret dX12_argues_83 rfl rfl ?_
          have kk : k = 0 := nI_inj (by omega) (by omega) (ek.symm.trans c31)
          rw [arguesR, hmm, ip, Option.elim, io, Option.elim, if_neg gn, ij, Option.elim, ik, Option.elim, if_pos kk] at hq
          exact hq S hv MF.rf
      · have ik := ix_none (n := 4) (by omega) (fun hh => g2 (isIx_back (n := 3) (by decide) hh))
        refine E_if_ne dX12_argues_23 (fun c => absurd rfl c) (fun _ => ?_)
        refine E_ldc dX12_argues_26 kX12_107 ?_
        refine E_iret dX12_argues_28 rfl rfl ?_
        rw [arguesR, hmm, ip, Option.elim, io, Option.elim, if_neg gn, ij, Option.elim, ik] at hq
        exact hq S hv MF.rf
    · have ij := ix_none (by omega) g2
      refine E_if_eq dX12_argues_13 (fun _ => ?_) (fun c => absurd (by decide) c)
      refine E_ldc dX12_argues_26 kX12_107 ?_
      refine E_iret dX12_argues_28 rfl rfl ?_
      rw [arguesR, hmm, ip, Option.elim, io, Option.elim, if_neg gn, ij] at hq
      exact hq S hv MF.rf
  · refine E_if_eq dX12_argues_6 (fun _ => ?_) (fun c => absurd (by decide) c)
    refine E_ldc dX12_argues_26 kX12_107 ?_
    refine E_iret dX12_argues_28 rfl rfl ?_
    rw [arguesR, hmm, ar_no hm9 gt] at hq
    exact hq S hv MF.rf
theorem s_X11_argues {Q : Int32 → HP → Prop} (hR : WRep S 20 v) {m : Nat} (hm : v 1 = nI m) (hmm : mN v = m) (hm9 : m ≤ 9) (ok : IC v m) (hT : TRep S v) {x y z w : Int32} (hq : ∀ S', WRep S' 20 v → WF 20 S S' → Q (arguesR v x y z w) (lay Θ S')) : C Θ (d + 4) 0 0 yX11_argues cX11_argues 8 (some .int) [.ref (tb Θ + 0), .int x, .int y, .int z, .int w] 183 (lay Θ S) (Qi Q) := by
  refine C_of rfl rfl (Nat.le_of_ble_eq_true rfl) ?_
  obtain ⟨tn, htn14, htn, hok⟩ := ok.2.2.2.2
  have hw : isW 20 := isW20
  have hm1 : S 20 1 = nI m := (hR.1 (1, 1) (by decide)).trans hm
  refine E_aload_n dX11_argues_0 rfl ?_
  refine E_iload_n dX11_argues_1 rfl ?_
  refine E_iload_n dX11_argues_2 rfl ?_
  refine E_V2i vX11_188_11 dX11_argues_3 (Nat.le_of_ble_eq_true rfl) (by decide) (sh_0 _) (s_X11_areTwo hm1 hm9 (fun ga gb gn => ?_) (fun gt => ?_))
  · refine E_if_eq dX11_argues_6 (fun c => absurd c (by decide)) (fun _ => ?_)
    obtain ⟨p, hp, ep, ip⟩ := ix_some (by omega) ga
    obtain ⟨o, ho, eo, io⟩ := ix_some (by omega) gb
    refine E_iload_n dX11_argues_9 rfl ?_
    refine E_S1i sX11_139 dX11_argues_10 (Nat.le_of_ble_eq_true rfl) (s_X11_isMatter (fun g2 => ?_) (fun g2 => ?_))
    · obtain ⟨j, hj, ej, ij⟩ := ix_some (by omega) g2
      refine E_if_ne dX11_argues_13 (fun _ => ?_) (fun c => absurd c (by decide))
      obtain ⟨⟨c, hc, hkd⟩, -, -, hvp⟩ := ok.1.2.2 p hp
      obtain ⟨-, -, -, hvo⟩ := ok.1.2.2 o ho
      rw [kdF] at hkd
      obtain ⟨a, ha, eap⟩ := ap_ix (ok.1.2.2 p hp) (ok.1.2.2 o ho) hj
      obtain ⟨q, hq7, eqv⟩ := hvp j hj
      obtain ⟨r, hr7, erv⟩ := hvo j hj
      refine E_aload_n dX11_argues_19 rfl ?_
      refine L_get fX11_83 dX11_argues_20 (by decide) sh_0 rfl ?_
      refine L_get fX11_111 dX11_argues_23 (by have := (isW20).lt; omega) (sh_W isW20) rfl ?_
      refine E_iload_n dX11_argues_26 rfl ?_
      refine L_aald (j := p) dX11_argues_27 (by have := (isW20).lt; omega) (sh_Wc isW20) rfl ep (by omega) (by decide) (if_pos (by omega)) ?_
      refine E_astore dX11_argues_28 (by decide) ?_
      refine E_aload_n dX11_argues_30 rfl ?_
      refine L_get fX11_83 dX11_argues_31 (by decide) sh_0 rfl ?_
      refine L_get fX11_111 dX11_argues_34 (by have := (isW20).lt; omega) (sh_W isW20) rfl ?_
      refine E_iload_n dX11_argues_37 rfl ?_
      refine L_aald (j := o) dX11_argues_38 (by have := (isW20).lt; omega) (sh_Wc isW20) rfl eo (by omega) (by decide) (if_pos (by omega)) ?_
      refine E_astore dX11_argues_39 (by decide) ?_
      refine E_aload dX11_argues_41 rfl ?_
      refine E_aload dX11_argues_43 rfl ?_
      refine E_iload_n dX11_argues_45 rfl ?_
      refine E_V2i vX11_192_4 dX11_argues_46 (Nat.le_of_ble_eq_true rfl) (by have := (hw.p (i := p) (by omega)).lt; omega) ((sh_P (hw.p (i := p) (by omega))) _) (s_X4_apartFrom hw hR hmm hm9 p o j hp ho ej hj ?_)
      rw [eap]
      refine E_istore dX11_argues_49 (by decide) ?_
      refine E_iload dX11_argues_51 rfl ?_
      refine E_top (fun x53 hx53 => ?_)
      by_cases k53_0 : x53 = 0
      · refine E_tswI (tgt := 84) dX11_argues_53 0 (by rw [k53_0]; decide) (by decide) rfl (by decide) ?_
        refine E_iload dX11_argues_84 rfl ?_
        refine E_iret dX11_argues_86 rfl rfl ?_
        rw [arguesR, hmm, ip, Option.elim, io, Option.elim, if_neg gn, ij, Option.elim, show ix w 4 = some 0 by rw [← hx53, k53_0]; exact ix_nI (i := 0) (by decide) (by decide), Option.elim, if_pos rfl, eap] at hq
        exact hq S hR WF.rf
      by_cases k53_1 : x53 = 1
      · refine E_tswI (tgt := 87) dX11_argues_53 1 (by rw [k53_1]; decide) (by decide) rfl (by decide) ?_
        refine E_aload_n dX11_argues_87 rfl ?_
        refine L_get fX11_83 dX11_argues_88 (by decide) sh_0 rfl ?_
        refine E_aload dX11_argues_91 rfl ?_
        refine E_iload dX11_argues_93 rfl ?_
        refine E_V2i vX11_196_10 dX11_argues_95 (Nat.le_of_ble_eq_true rfl) (by have := (isW20).lt; omega) ((sh_W isW20) _) (s_X10_speechOf isW20 hR hmm hm9 hT htn htn14 hok p a hp ha (ok.1.2.2 p hp) (fun S95 h95 f95 => ?_))
        refine E_iret dX11_argues_98 rfl rfl ?_
        rw [arguesR, hmm, ip, Option.elim, io, Option.elim, if_neg gn, ij, Option.elim, show ix w 4 = some 1 by rw [← hx53, k53_1]; exact ix_nI (i := 1) (by decide) (by decide), Option.elim, if_neg (by decide), if_pos rfl, spV, eap] at hq
        exact hq S95 h95 f95
      by_cases k53_2 : x53 = 2
      · refine E_tswI (tgt := 99) dX11_argues_53 2 (by rw [k53_2]; decide) (by decide) rfl (by decide) ?_
        refine E_aload dX11_argues_99 rfl ?_
        refine P_nat (p := p) (c := c) hR hw hmm hm9 hp hc hkd fX11_121 dX11_argues_101 ?_
        refine E_iload dX11_argues_104 rfl ?_
        refine NV_X11_199 ha hc rfl dX11_argues_106 (Nat.le_of_ble_eq_true rfl) ?_
        refine E_iret dX11_argues_109 rfl rfl ?_
        rw [arguesR, hmm, ip, Option.elim, io, Option.elim, if_neg gn, ij, Option.elim, show ix w 4 = some 2 by rw [← hx53, k53_2]; exact ix_nI (i := 2) (by decide) (by decide), Option.elim, if_neg (by decide), if_neg (by decide), if_pos rfl, htV, kdF, hkd, eap] at hq
        exact hq S hR WF.rf
      by_cases k53_3 : x53 = 3
      · refine E_tswI (tgt := 110) dX11_argues_53 3 (by rw [k53_3]; decide) (by decide) rfl (by decide) ?_
        refine E_aload dX11_argues_110 rfl ?_
        refine P_nat (p := p) (c := c) hR hw hmm hm9 hp hc hkd fX11_121 dX11_argues_112 ?_
        refine E_aload dX11_argues_115 rfl ?_
        refine P_views (p := p) hw (by omega) fX11_142 dX11_argues_117 ?_
        refine E_iload_n dX11_argues_120 rfl ?_
        refine V_get (p := p) (j := j) hR hw hmm hm9 hp dX11_argues_121 ej hj ?_
        refine E_aload dX11_argues_122 rfl ?_
        refine P_views (p := o) hw (by omega) fX11_142 dX11_argues_124 ?_
        refine E_iload_n dX11_argues_127 rfl ?_
        refine V_get (p := o) (j := j) hR hw hmm hm9 ho dX11_argues_128 ej hj ?_
        rw [eqv, erv]
        refine NV_X11_202 hq7 hr7 hc rfl dX11_argues_129 (Nat.le_of_ble_eq_true rfl) ?_
        refine E_iret dX11_argues_132 rfl rfl ?_
        rw [arguesR, hmm, ip, Option.elim, io, Option.elim, if_neg gn, ij, Option.elim, show ix w 4 = some 3 by rw [← hx53, k53_3]; exact ix_nI (i := 3) (by decide) (by decide), Option.elim, if_neg (by decide), if_neg (by decide), if_neg (by decide), shV, kdF, hkd, eqv, erv] at hq
        exact hq S hR WF.rf
      refine E_tswO (tgt := 133) dX11_argues_53 (by have := ne_toInt (k := 0) (by decide) k53_0; have := ne_toInt (k := 1) (by decide) k53_1; have := ne_toInt (k := 2) (by decide) k53_2; have := ne_toInt (k := 3) (by decide) k53_3; omega) (by decide) ?_
      refine E_ldc dX11_argues_133 kX11_105 ?_
      refine E_iret dX11_argues_135 rfl rfl ?_
      rw [arguesR, hmm, ip, Option.elim, io, Option.elim, if_neg gn, ij, Option.elim, show ix w 4 = none from ix4_no (hx53 ▸ k53_0) (hx53 ▸ k53_1) (hx53 ▸ k53_2) (hx53 ▸ k53_3)] at hq
      exact hq S hR WF.rf
    · have ij := ix_none (by omega) g2
      refine E_if_ne dX11_argues_13 (fun c => absurd rfl c) (fun _ => ?_)
      refine E_ldc dX11_argues_16 kX11_105 ?_
      refine E_iret dX11_argues_18 rfl rfl ?_
      rw [arguesR, hmm, ip, Option.elim, io, Option.elim, if_neg gn, ij] at hq
      exact hq S hR WF.rf
  · refine E_if_eq dX11_argues_6 (fun _ => ?_) (fun c => absurd (by decide) c)
    refine E_ldc dX11_argues_16 kX11_105 ?_
    refine E_iret dX11_argues_18 rfl rfl ?_
    rw [arguesR, hmm, ar_no hm9 gt] at hq
    exact hq S hR WF.rf
end Ag
