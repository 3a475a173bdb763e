/-! the class's piece -/
theorem trC_n {q : Nat} (h : q < 10000) : nI q = trC (nI q) := by
  rw [trC, if_pos (nI_pos' (by omega)), if_pos (show nI q < 10000 from nI_lt (b := 10000) h (by omega))]
section Pi
variable {Θ : Th} {b : Nat → Int32} {n τ key : Nat} {adK adV : Nat → Nat} {fv : Value}
theorem num_tr {s e : Nat} {t : Int32} (hb : byOk b n) (hto : TkO b n s e t) (tt : t = 257) (hc : e - s ≤ 4) : nuF b s (e - s) = trC (nuF b s (e - s)) := by
  have hpa : paF b 0 s e t = some (nuF b s (e - s)) := by rw [paF, if_pos tt, if_pos hc]
  obtain ⟨q, eq, -, -, ⟨-, -, -, hq⟩ | ⟨z, -⟩⟩ := pa_ok hb hto hpa
  · rw [eq]
    exact trC_n hq
  · exact absurd (tt.symm.trans z) (by decide)
theorem v_X7_takePiece (hX : HasS Θ adK adV fv) (ht : τ < 15) (hb : byOk b n) (h3 : key < 3) {m Y : Nat} (hN : LvP Θ b n τ key 6 m GN (cNot Θ (Y + 4))) (hB : LvP Θ b n τ key 6 m GB (cBr Θ (Y + 4))) : LvP Θ b n τ key 6 m G1 (cPiece Θ (Y + 5)) := by
  intro S par nots W Cd at_ te s e t R0 Q hG hT h5 hkey hk hC hp hm hsd hte hR hq1 hq0
  have hen := hp.1.2.1
  have hse := hp.1.1
  have hn := hp.2.1
  have hs1 := nxS_le (b := b) hen
  have hlen := hp.2.2.1
  have hL : HL τ S := hC.hl (by omega)
  have hp8 := hp.2.2.2.2.2.1
  have hn8 := hp.2.2.2.2.2.2.2.1
  refine C_of rfl rfl (Nat.le_of_ble_eq_true rfl) ?_
  refine E_aload_n dX7_takePiece_0 rfl ?_
  refine L_get fX7_23 dX7_takePiece_1 (by decide) sh_3 rfl ?_
  rw [hk.2.2]
  refine E_top (fun x4 hx4 => ?_)
  by_cases k4_33 : x4 = 33
  · refine E_lsw (off := 54) (tgt := 58) dX7_takePiece_4 (by decide) (by rw [k4_33]; decide) (by decide) ?_
    refine E_iload_n dX7_takePiece_58 rfl ?_
    refine E_bipush (v := 8) dX7_takePiece_59 (by decide) ?_
    refine E_icmp_ge dX7_takePiece_61 (fun c61 => ?_) (fun c61 => ?_)
    · refine E_ic (v := 0) dX7_takePiece_79 (by decide) ?_
      refine E_iret dX7_takePiece_80 rfl rfl ?_
      have tt : t = 33 := hx4.symm.trans k4_33
      have l8 : ¬ nots < 8 := fun z => absurd ((nI_leI (a := 8) (by decide) (by omega)).mp c61) (by omega)
      exact hq0 S ⟨hL, s, hk.1, hR _ (Rx_bad (fun z => l8 z.2) (fun z => absurd (z.1.symm.trans tt) (by decide)) (paF_no (by rw [tt]; decide) (by rw [tt]; decide)))⟩ PCF.rf
    · have tt : t = 33 := hx4.symm.trans k4_33
      have l8 : nots < 8 := (nI_ltI (b := 8) (by omega) (by decide)).mp (i_nle c61)
      refine E_aload_n dX7_takePiece_64 rfl ?_
      refine E_iload_n dX7_takePiece_65 rfl ?_
      refine E_iload_n dX7_takePiece_66 rfl ?_
      refine E_ic (v := 1) dX7_takePiece_67 (by decide) ?_
      refine E_iadd dX7_takePiece_68 ?_
      rw [nI_1]
      refine E_V2i vX7_100_7 dX7_takePiece_69 (Nat.le_of_ble_eq_true rfl) (by decide) (sh_3 _) (hN S par nots W Cd at_ te s e t R0 _ ⟨l8, tt⟩ hT h5 hkey hk hC hp hm (fun z => absurd z (by decide)) (fun z => absurd z (by decide)) hR (fun S9 g9 f9 => ?_) (fun S9 g9 f9 => ?_))
      · refine E_if_eq dX7_takePiece_72 (fun c => absurd c (by decide)) (fun _ => ?_)
        refine E_ic (v := 1) dX7_takePiece_75 (by decide) ?_
        refine E_goto dX7_takePiece_76 ?_
        refine E_iret dX7_takePiece_80 rfl rfl ?_
        exact hq1 S9 g9 f9
      · refine E_if_eq dX7_takePiece_72 (fun _ => ?_) (fun c => absurd (by decide) c)
        refine E_ic (v := 0) dX7_takePiece_79 (by decide) ?_
        refine E_iret dX7_takePiece_80 rfl rfl ?_
        exact hq0 S9 g9 f9
  by_cases k4_40 : x4 = 40
  · refine E_lsw (off := 77) (tgt := 81) dX7_takePiece_4 (by decide) (by rw [k4_40]; decide) (by decide) ?_
    refine E_iload_n dX7_takePiece_81 rfl ?_
    refine E_bipush (v := 8) dX7_takePiece_82 (by decide) ?_
    refine E_icmp_ge dX7_takePiece_84 (fun c84 => ?_) (fun c84 => ?_)
    · refine E_ic (v := 0) dX7_takePiece_102 (by decide) ?_
      refine E_iret dX7_takePiece_103 rfl rfl ?_
      have tt : t = 40 := hx4.symm.trans k4_40
      have l8 : ¬ par < 8 := fun z => absurd ((nI_leI (a := 8) (by decide) (by omega)).mp c84) (by omega)
      exact hq0 S ⟨hL, s, hk.1, hR _ (Rx_bad (fun z => absurd (z.1.symm.trans tt) (by decide)) (fun z => l8 z.2) (paF_no (by rw [tt]; decide) (by rw [tt]; decide)))⟩ PCF.rf
    · have tt : t = 40 := hx4.symm.trans k4_40
      have l8 : par < 8 := (nI_ltI (b := 8) (by omega) (by decide)).mp (i_nle c84)
      refine E_aload_n dX7_takePiece_87 rfl ?_
      refine E_iload_n dX7_takePiece_88 rfl ?_
      refine E_ic (v := 1) dX7_takePiece_89 (by decide) ?_
      refine E_iadd dX7_takePiece_90 ?_
      rw [nI_1]
      refine E_iload_n dX7_takePiece_91 rfl ?_
      refine E_V2i vX7_103_7 dX7_takePiece_92 (Nat.le_of_ble_eq_true rfl) (by decide) (sh_3 _) (hB S par nots W Cd at_ te s e t R0 _ ⟨l8, tt⟩ hT h5 hkey hk hC hp hm (fun z => absurd z (by decide)) (fun z => absurd z (by decide)) hR (fun S9 g9 f9 => ?_) (fun S9 g9 f9 => ?_))
      · refine E_if_eq dX7_takePiece_95 (fun c => absurd c (by decide)) (fun _ => ?_)
        refine E_ic (v := 1) dX7_takePiece_98 (by decide) ?_
        refine E_goto dX7_takePiece_99 ?_
        refine E_iret dX7_takePiece_103 rfl rfl ?_
        exact hq1 S9 g9 f9
      · refine E_if_eq dX7_takePiece_95 (fun _ => ?_) (fun c => absurd (by decide) c)
        refine E_ic (v := 0) dX7_takePiece_102 (by decide) ?_
        refine E_iret dX7_takePiece_103 rfl rfl ?_
        exact hq0 S9 g9 f9
  by_cases k4_256 : x4 = 256
  · refine E_lsw (off := 49) (tgt := 53) dX7_takePiece_4 (by decide) (by rw [k4_256]; decide) (by decide) ?_
    refine E_aload_n dX7_takePiece_53 rfl ?_
    have tt : t = 256 := hx4.symm.trans k4_256
    have hlt := hp.1.2.2.2.1 (show ¬ t = 258 by rw [tt]; decide)
    refine E_V0i vX7_97_7 dX7_takePiece_54 (Nat.le_of_ble_eq_true rfl) (by decide) (sh_3 _) (s_X7_takeName hX ht h5 hL hT hn hk hse hen hb hp.1 tt hkey h3 (fun hc S9 k9 c9 h9 f9 => ?_) (fun hc => ?_))
    · have hpa : paF b key s e t = some (10000 + nmR key (b s)) := by rw [paF, if_neg (by rw [tt]; decide), if_pos tt, if_pos hc]
      refine E_iret dX7_takePiece_57 rfl rfl ?_
      exact hq1 S9 ⟨_, _, _, at_ + 1, te, _, _, _, _ :: Cd, k9, c9 Cd at_ hC (by omega), PIn_part hb hp hpa, fun z => absurd z (by decide), fun _ => rfl, fun _ _ => rfl, fun _ => rfl, NC_6, by omega, fun o ho => hR o (Rx_part (fun z => absurd (z.1.symm.trans tt) (by decide)) (fun z => absurd (z.1.symm.trans tt) (by decide)) hpa ho)⟩ f9
    · have hpa : paF b key s e t = none := by rw [paF, if_neg (by rw [tt]; decide), if_pos tt, if_neg hc]
      refine E_iret dX7_takePiece_57 rfl rfl ?_
      exact hq0 S ⟨hL, s, hk.1, hR _ (Rx_bad (fun z => absurd (z.1.symm.trans tt) (by decide)) (fun z => absurd (z.1.symm.trans tt) (by decide)) hpa)⟩ PCF.rf
  by_cases k4_257 : x4 = 257
  · refine E_lsw (off := 44) (tgt := 48) dX7_takePiece_4 (by decide) (by rw [k4_257]; decide) (by decide) ?_
    refine E_aload_n dX7_takePiece_48 rfl ?_
    have tt : t = 257 := hx4.symm.trans k4_257
    have hlt := hp.1.2.2.2.1 (show ¬ t = 258 by rw [tt]; decide)
    have hx : e - s ≤ 4 → nuF b s (e - s) = trC (nuF b s (e - s)) := num_tr hb hp.1 tt
    refine E_V0i vX7_93_7 dX7_takePiece_49 (Nat.le_of_ble_eq_true rfl) (by decide) (sh_3 _) (s_X7_takeNumber ht h5 hL hT hn hk hse hen hx (fun hc S9 k9 c9 h9 f9 => ?_) (fun hc => ?_))
    · have hpa : paF b key s e t = some (nuF b s (e - s)) := by rw [paF, if_pos tt, if_pos hc]
      refine E_iret dX7_takePiece_52 rfl rfl ?_
      exact hq1 S9 ⟨_, _, _, at_ + 1, te, _, _, _, _ :: Cd, k9, c9 Cd at_ hC (by omega), PIn_part hb hp hpa, fun z => absurd z (by decide), fun _ => rfl, fun _ _ => rfl, fun _ => rfl, NC_6, by omega, fun o ho => hR o (Rx_part (fun z => absurd (z.1.symm.trans tt) (by decide)) (fun z => absurd (z.1.symm.trans tt) (by decide)) hpa ho)⟩ f9
    · have hpa : paF b key s e t = none := by rw [paF, if_pos tt, if_neg hc]
      refine E_iret dX7_takePiece_52 rfl rfl ?_
      exact hq0 S ⟨hL, s, hk.1, hR _ (Rx_bad (fun z => absurd (z.1.symm.trans tt) (by decide)) (fun z => absurd (z.1.symm.trans tt) (by decide)) hpa)⟩ PCF.rf
  refine E_lsw (off := 100) (tgt := 104) dX7_takePiece_4 (by decide) ((lv_osw (k := 33) k4_33 (by decide)).trans <| (lv_osw (k := 40) k4_40 (by decide)).trans <| (lv_osw (k := 256) k4_256 (by decide)).trans <| (lv_osw (k := 257) k4_257 (by decide)).trans <| rfl) (by decide) ?_
  refine E_ic (v := 0) dX7_takePiece_104 (by decide) ?_
  refine E_iret dX7_takePiece_105 rfl rfl ?_
  exact hq0 S ⟨hL, s, hk.1, hR _ (Rx_bad (fun z => k4_33 (hx4.trans z.1)) (fun z => k4_40 (hx4.trans z.1)) (paF_no (fun z => k4_256 (hx4.trans z)) (fun z => k4_257 (hx4.trans z))))⟩ PCF.rf
end Pi
