/-! argues, on both sides -/
def arguesR (v : WV) (x y z w : Int32) : Int32 := (ix x (mN v)).elim bad fun p => (ix y (mN v)).elim bad fun o => if x = y then bad else (ix z 6).elim bad fun j => (ix w 4).elim bad fun k => if k = 0 then apV v p o j else if k = 1 then spV v p o j else if k = 2 then htV v p o j else shV v p o j
theorem ar_no {x y : Int32} {m : Nat} {F : Nat → Nat → Int32} (hm : m ≤ 9) (h : ¬ (isIx x m ∧ isIx y m ∧ ¬ x = y)) : ((ix x m).elim bad fun p => (ix y m).elim bad fun o => if x = y then bad else F p o) = bad := by
  by_cases h1 : isIx x m
  · obtain ⟨p, hp, ep, ip⟩ := ix_some (by omega) h1
    by_cases h2 : isIx y m
    · obtain ⟨q, hq, eq, iq⟩ := ix_some (by omega) h2
      by_cases h3 : x = y
      · rw [ip, Option.elim, iq, Option.elim, if_pos h3]
      · exact absurd ⟨h1, h2, h3⟩ h
    · rw [ip, Option.elim, ix_none (by omega) h2] <;> rfl
  · rw [ix_none (by omega) h1] <;> rfl
section Ag
variable {Θ : Th} {d : Nat} {S : SS} {v : WV}
theorem s_X12_argues {Q : Int32 → HP → Prop} (hv : S 160 = v) {m : Nat} (hm : v 1 = nI m) (hmm : mN v = m) (hm9 : m ≤ 9) (ok : IC v m) {x y z w : Int32} (hq : ∀ S', S' 160 = v → MF S S' → Q (arguesR v x y z w) (lay Θ S')) : C Θ (d + 3) 0 0 yX12_argues cX12_argues 5 (some .int) [.ref (tb Θ + 159), .int x, .int y, .int z, .int w] 183 (lay Θ S) (Qi Q) := by
  refine C_of rfl rfl (Nat.le_of_ble_eq_true rfl) ?_
  obtain ⟨tn, htn14, htn, hok⟩ := ok.2.2.2.2
  have hm1 : S 160 1 = nI m := by rw [hv]; exact hm
  refine E_aload_n dX12_argues_0 rfl ?_
  refine E_iload_n dX12_argues_1 rfl ?_
  refine E_iload_n dX12_argues_2 rfl ?_
  refine E_V2i vX12_137_12 dX12_argues_3 (Nat.le_of_ble_eq_true rfl) (by decide) (sh_159 _) (s_X12_areTwo hm1 hm9 (fun ga gb gn => ?_) (fun gt => ?_))
  · refine E_if_eq dX12_argues_6 (fun c => absurd c (by decide)) (fun _ => ?_)
    obtain ⟨p, hp, ep, ip⟩ := ix_some (by omega) ga
    obtain ⟨o, ho, eo, io⟩ := ix_some (by omega) gb
    refine E_iload_n dX12_argues_9 rfl ?_
    refine E_S1i sX12_119 dX12_argues_10 (Nat.le_of_ble_eq_true rfl) (s_X12_isMatter (fun g2 => ?_) (fun g2 => ?_))
    · obtain ⟨j, hj, ej, ij⟩ := ix_some (by omega) g2
      refine E_if_eq dX12_argues_13 (fun c => absurd c (by decide)) (fun _ => ?_)
      refine E_iload dX12_argues_16 rfl ?_
      refine E_ic (v := 0) dX12_argues_18 (by decide) ?_
      refine E_ic (v := 3) dX12_argues_19 (by decide) ?_
      refine E_S3i sX12_81 dX12_argues_20 (Nat.le_of_ble_eq_true rfl) (s_X12_in (fun g2a g2b => ?_) (fun g2 => ?_))
      · obtain ⟨k, hk4, ek, ik⟩ := ix_some (by omega) (isIx_le (n := 3) (by decide) g2a g2b)
        refine E_if_ne dX12_argues_23 (fun _ => ?_) (fun c => absurd c (by decide))
        refine E_iload dX12_argues_29 rfl ?_
        refine E_if_ne dX12_argues_31 (fun c31 => ?_) (fun c31 => ?_)
        · refine E_iload dX12_argues_44 rfl ?_
          refine E_ic (v := 1) dX12_argues_46 (by decide) ?_
          refine E_icmp_ne dX12_argues_47 (fun c47 => ?_) (fun c47 => ?_)
          · refine E_iload dX12_argues_60 rfl ?_
            refine E_ic (v := 2) dX12_argues_62 (by decide) ?_
            refine E_icmp_ne dX12_argues_63 (fun c63 => ?_) (fun c63 => ?_)
            · refine E_aload_n dX12_argues_76 rfl ?_
              refine E_iload_n dX12_argues_77 rfl ?_
              refine E_iload_n dX12_argues_78 rfl ?_
              refine E_iload_n dX12_argues_79 rfl ?_
              refine E_V3i vX12_146_12 dX12_argues_80 (Nat.le_of_ble_eq_true rfl) (by decide) (sh_159 _) (s_X12_shifts hv p o j ep eo ej (by omega) (by omega) hj ?_)
              refine E_iret dX12_argues_83 rfl rfl ?_
              have k0 : ¬ k = 0 := fun e => c31 (by rw [ek, e]; rfl)
              have k1 : ¬ k = 1 := fun e => c47 (by rw [ek, e]; rfl)
              have k2 : ¬ k = 2 := fun e => c63 (by rw [ek, e]; rfl)
              rw [arguesR, hmm, ip, Option.elim, io, Option.elim, if_neg gn, ij, Option.elim, ik, Option.elim, if_neg k0, if_neg k1, if_neg k2] at hq
              exact hq S hv MF.rf
            · refine E_aload_n dX12_argues_66 rfl ?_
              refine E_iload_n dX12_argues_67 rfl ?_
              refine E_iload_n dX12_argues_68 rfl ?_
              refine E_iload_n dX12_argues_69 rfl ?_
              refine E_V3i vX12_143_12 dX12_argues_70 (Nat.le_of_ble_eq_true rfl) (by decide) (sh_159 _) (s_X12_heats hv p o j ep eo ej (by omega) (by omega) hj ?_)
              refine E_goto dX12_argues_73 ?_
              refine E_iret dX12_argues_83 rfl rfl ?_
              have kk : k = 2 := nI_inj (by omega) (by omega) (ek.symm.trans c63)
              rw [arguesR, hmm, ip, Option.elim, io, Option.elim, if_neg gn, ij, Option.elim, ik, Option.elim, if_neg (by omega), if_neg (by omega), if_pos kk] at hq
              exact hq S hv MF.rf
          · refine E_aload_n dX12_argues_50 rfl ?_
            refine E_iload_n dX12_argues_51 rfl ?_
            refine E_iload_n dX12_argues_52 rfl ?_
            refine E_iload_n dX12_argues_53 rfl ?_
            refine E_V3i vX12_140_12 dX12_argues_54 (Nat.le_of_ble_eq_true rfl) (by decide) (sh_159 _) (s_X12_speaks hv htn htn14 hok p o j ep eo ej (by omega) (by omega) hj (fun S54 h54 f54 => ?_))
            refine E_goto dX12_argues_57 ?_
            refine E_iret dX12_argues_83 rfl rfl ?_
            have kk : k = 1 := nI_inj (by omega) (by omega) (ek.symm.trans c47)
            rw [arguesR, hmm, ip, Option.elim, io, Option.elim, if_neg gn, ij, Option.elim, ik, Option.elim, if_neg (by omega), if_pos kk] at hq
            exact hq S54 h54 f54
        · refine E_aload_n dX12_argues_34 rfl ?_
          refine E_iload_n dX12_argues_35 rfl ?_
          refine E_iload_n dX12_argues_36 rfl ?_
          refine E_iload_n dX12_argues_37 rfl ?_
          refine E_V3i vX12_89_12 dX12_argues_38 (Nat.le_of_ble_eq_true rfl) (by decide) (sh_159 _) (s_X12_apart hv p o j ep eo ej (by omega) (by omega) hj ?_)
          refine E_goto dX12_argues_41 ?_
          refine E_iret dX12_argues_83 rfl rfl ?_
          have kk : k = 0 := nI_inj (by omega) (by omega) (ek.symm.trans c31)
          rw [arguesR, hmm, ip, Option.elim, io, Option.elim, if_neg gn, ij, Option.elim, ik, Option.elim, if_pos kk] at hq
          exact hq S hv MF.rf
      · have ik := ix_none (n := 4) (by omega) (fun hh => g2 (isIx_back (n := 3) (by decide) hh))
        refine E_if_ne dX12_argues_23 (fun c => absurd rfl c) (fun _ => ?_)
        refine E_ldc dX12_argues_26 kX12_107 ?_
        refine E_iret dX12_argues_28 rfl rfl ?_
        rw [arguesR, hmm, ip, Option.elim, io, Option.elim, if_neg gn, ij, Option.elim, ik] at hq
        exact hq S hv MF.rf
    · have ij := ix_none (by omega) g2
      refine E_if_eq dX12_argues_13 (fun _ => ?_) (fun c => absurd (by decide) c)
      refine E_ldc dX12_argues_26 kX12_107 ?_
      refine E_iret dX12_argues_28 rfl rfl ?_
      rw [arguesR, hmm, ip, Option.elim, io, Option.elim, if_neg gn, ij] at hq
      exact hq S hv MF.rf
  · refine E_if_eq dX12_argues_6 (fun _ => ?_) (fun c => absurd (by decide) c)
    refine E_ldc dX12_argues_26 kX12_107 ?_
    refine E_iret dX12_argues_28 rfl rfl ?_
    rw [arguesR, hmm, ar_no hm9 gt] at hq
    exact hq S hv MF.rf
end Ag
