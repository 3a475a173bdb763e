/-! the class: speech, heat, setting off, views -/
theorem held_clamp (x : Int32) : heldF x = clampF x 0 99 := by
  unfold heldF clampF
  by_cases h1 : 99 < x
  · rw [if_pos h1, if_pos (by decide), if_neg (i_lt (Int32.le_trans (by decide) (Int32.le_of_lt h1)))]
  · rw [if_neg h1]
    by_cases h2 : x < 0
    · rw [if_pos h2, if_neg (i_lt (Int32.le_of_lt h2))]
    · rw [if_neg h2]
      by_cases h3 : 0 < x
      · rw [if_pos h3]
      · rw [if_neg h3]
        exact Int32.le_antisymm (i_nlt h2) (i_nlt h3)
theorem held_small : ∀ a : Fin 7, heldF (nI a.val) = nI a.val := by decide +kernel
theorem heat_fin : ∀ (t : Fin 100) (c : Fin 6) (a : Fin 7), (if (99 : Int32) < nI t.val + htF (nI c.val) (nI a.val) then 99 else nI t.val + htF (nI c.val) (nI a.val)) = clampF (nI t.val + htF (nI c.val) (nI a.val)) 0 99 := by decide +kernel
theorem WRep.tf {S S' : SS} {w t : Nat} {v : WV} (hw : isW w) (ht : t < 15) (h : WRep S w v) (hm : mN v ≤ 9) (hf : TF t S S') : WRep S' w v := by
  obtain ⟨h1, h2, h3, h4⟩ := h
  have hl : w < 65 := by rcases hw with rfl | rfl | rfl <;> decide
  refine ⟨fun q hq => by rw [hf w (by omega)]; exact h1 q hq, fun j hj => by rw [hf (w + 2) (by omega)]; exact h2 j hj, fun c hc => by rw [hf (w + 3) (by omega)]; exact h3 c hc, fun p hp => ?_⟩
  obtain ⟨b1, b2, b3, b4⟩ := h4 p hp
  have e1 : S' (w + 4 + 2 * p) = S (w + 4 + 2 * p) := hf _ (by omega)
  have e2 : S' (w + 4 + 2 * p + 1) = S (w + 4 + 2 * p + 1) := hf _ (by omega)
  exact ⟨by rw [e1]; exact b1, by rw [e1]; exact b2, by rw [e1]; exact b3, fun j hj => by rw [e2]; exact b4 j hj⟩
theorem TF.wf {t w : Nat} {S S' : SS} (ht : t < 15) (h : TF t S S') : WF w S S' := fun k _ b => h k (b t ht)
theorem upd_comm {f : Nat → Int32} {i j : Nat} {x z : Int32} (h : i ≠ j) : upd (upd f i x) j z = upd (upd f j z) i x := by
  funext k
  by_cases h1 : k = i
  · subst h1
    rw [pk_un h, pk_us, pk_us]
  · by_cases h2 : k = j
    · subst h2
      rw [pk_us, pk_un h1, pk_us]
    · rw [pk_un h2, pk_un h1, pk_un h1, pk_un h2]
theorem upd_self {f : Nat → Int32} {i : Nat} {x : Int32} (h : f i = x) : upd f i x = f := by
  funext k
  by_cases h1 : k = i
  · subst h1
    rw [pk_us, h]
  · rw [pk_un h1]
theorem upd_over {f : Nat → Int32} {i : Nat} {x z : Int32} : upd (upd f i x) i z = upd f i z := by
  funext k
  by_cases h1 : k = i
  · subst h1
    rw [pk_us, pk_us]
  · rw [pk_un h1, pk_un h1, pk_un h1]
theorem to_sh {c : WV} {p o : Nat} : toV c p o (c 5) = shCl c p o := by
  rw [toV, shCl, show 15 + 9 * p + 1 = 16 + 9 * p by omega, show 15 + 9 * o + 1 = 16 + 9 * o by omega, upd_self (i := 5)]
  rw [pk_un (by omega), pk_un (by omega)]
theorem to_over {c : WV} {p o : Nat} {x b : Int32} : toV (upd c 5 x) p o b = toV c p o b := by
  rw [toV, toV, upd_comm (f := c) (i := 5) (by omega), upd_comm (f := upd c (16 + 9 * p) b) (i := 5) (by omega), upd_over]
theorem go_eq {v : WV} {p o : Nat} (hpo : p < o) (ho : o < 9) : goCl (drawV v) p o (rem6 (drawR v)) = upd (drawV (goV v p o)) 9 (rem6 (drawR (goV v p o))) := by
  have h0 : goV v p o 0 = v 0 := by rw [goV, pk_un (by omega), pk_un (by omega), pk_un (by omega), pk_un (by omega), pk_un (by omega)]
  have hN : drawN (goV v p o) = drawN v := by rw [drawN, drawN, h0]
  have hR : drawR (goV v p o) = drawR v := by rw [drawR, drawR, hN]
  rw [hR, drawV, drawV, hN, goCl, goV, if_pos (nI_lt hpo (by omega)), if_pos (nI_lt hpo (by omega)), show 15 + 9 * p + 1 = 16 + 9 * p by omega, show 15 + 9 * o + 1 = 16 + 9 * o by omega]
  funext k
  by_cases a0 : k = 0
  · subst a0
    rw [pk_un (by omega), pk_un (by omega), pk_un (by omega), pk_un (by omega), pk_un (by omega), pk_un (by omega), pk_us, pk_un (by omega), pk_us]
  · by_cases a9 : k = 9
    · subst a9
      rw [pk_un (by omega), pk_un (by omega), pk_un (by omega), pk_us, pk_us]
    · rw [pk_un a9, pk_un (f := upd _ 6 1) a0]
      by_cases a6 : k = 6
      · subst a6
        rw [pk_un (by omega), pk_un (by omega), pk_us, pk_us]
      · by_cases a8 : k = 8
        · subst a8
          rw [pk_un (by omega), pk_un (by omega), pk_un (by omega), pk_un (by omega), pk_us, pk_un (by omega), pk_us]
        · by_cases a7 : k = 7
          · subst a7
            rw [pk_un (by omega), pk_un (by omega), pk_un (by omega), pk_un (by omega), pk_un (by omega), pk_us, pk_un (by omega), pk_un (by omega), pk_us]
          · by_cases b1 : k = 16 + 9 * o
            · subst b1
              rw [pk_us, pk_un (by omega), pk_un (by omega), pk_un (by omega), pk_us]
            · by_cases b2 : k = 16 + 9 * p
              · subst b2
                rw [pk_un (by omega), pk_us, pk_un (by omega), pk_un (by omega), pk_un (by omega), pk_un (by omega), pk_us]
              · rw [pk_un b1, pk_un b2, pk_un a6, pk_un a9, pk_un a8, pk_un a7, pk_un a0, pk_un a6, pk_un a8, pk_un a7, pk_un b1, pk_un b2]
section Sp
variable {Θ : Th} {d : Nat} {S : SS} {v : WV}
theorem s_X4_heatUp {Q : HP → Prop} {w : Nat} (hw : isW w) (hR : WRep S w v) {m : Nat} (hmm : mN v = m) (hm9 : m ≤ 9) (p a : Nat) (hp : p < m) (ha : a < 7) {x : Int32} (hx : x = nI a) (ok : paOk v p) (hq : ∀ S', WRep S' w (upd v (17 + 9 * p) (clampF (tmF v p + htF (kdF v p) (nI a)) 0 99)) → WF w S S' → Q (lay Θ S')) : C Θ (d + 3) 0 0 yX4_heatUp cX4_heatUp 2 none [.ref (tb Θ + (w + 4 + 2 * p)), .int x] 183 (lay Θ S) (Qv Q) := by
  refine C_of rfl rfl (Nat.le_of_ble_eq_true rfl) ?_
  subst hx
  obtain ⟨⟨c, hc, hk⟩, ⟨t, ht9, ht⟩, -, -⟩ := ok
  rw [kdF] at hk
  rw [tmF] at ht
  refine E_aload_n dX4_heatUp_0 rfl ?_
  refine E_aload_n dX4_heatUp_1 rfl ?_
  refine P_temp (p := p) hR hw hmm hm9 hp fX4_23 dX4_heatUp_2 ?_
  rw [ht]
  refine E_aload_n dX4_heatUp_5 rfl ?_
  refine P_nat (p := p) (c := c) hR hw hmm hm9 hp hc hk fX4_15 dX4_heatUp_6 ?_
  refine E_iload_n dX4_heatUp_9 rfl ?_
  refine NV_X4_44 ha hc rfl dX4_heatUp_10 (Nat.le_of_ble_eq_true rfl) ?_
  refine E_iadd dX4_heatUp_13 ?_
  refine E_bipush (v := 99) dX4_heatUp_14 (by decide) ?_
  refine E_mmin mX4_49 w_mins w_mi w_minc dX4_heatUp_16 (Nat.le_of_ble_eq_true rfl) ?_
  rw [heat_fin ⟨t, ht9⟩ ⟨c, hc⟩ ⟨a, ha⟩]
  refine P_put (p := p) (f := 2) hR hw hmm hm9 hp (by decide) fX4_23 dX4_heatUp_19 (fun S19 h19 f19 => ?_)
  refine E_vret dX4_heatUp_22 rfl rfl ?_
  refine hq _ (WRep_eq h19 ?_) ((WF.rf).tr f19)
  rw [show 15 + 9 * p + 2 = 17 + 9 * p by omega, tmF, kdF, ht, hk]
theorem s_X10_speechOf {Q : Int32 → HP → Prop} {w : Nat} (hw : isW w) (hR : WRep S w v) {m : Nat} (hmm : mN v = m) (hm9 : m ≤ 9) (hT : TRep S v) {tn : Nat} (htn : v 14 = nI tn) (htn14 : tn ≤ 14) (hok : ∀ i, i < tn → txOk v i) (p a : Nat) (hp : p < m) (ha : a < 7) (ok : paOk v p) (hq : ∀ S', WRep S' w (v) → WF w S S' → Q (spF (kdF v p) (plF v p (nI a)) (nI a)) (lay Θ S')) : C Θ (d + 3) 0 0 yX10_speechOf cX10_speechOf 5 (some .int) [.ref (tb Θ + w), .ref (tb Θ + (w + 4 + 2 * p)), .int (nI a)] 183 (lay Θ S) (Qi Q) := by
  refine C_of rfl rfl (Nat.le_of_ble_eq_true rfl) ?_
  obtain ⟨⟨c, hc, hk⟩, -, -, -⟩ := ok
  rw [kdF] at hk
  have htN : tN v = tn := by rw [tN, htn, nI_clamp (by omega)]
  by_cases hl0 : lawF v 0 < 0
  · refine E_aload_n dX10_speechOf_0 rfl ?_
    refine L_get fX10_33 dX10_speechOf_1 (by have := (hw).lt; omega) (sh_W hw) rfl ?_
    refine E_ic (v := 0) dX10_speechOf_4 (by decide) ?_
    refine L_aaldN (j := 0) dX10_speechOf_5 (by have := hw.lt; omega) (sh_Wl hw) rfl rfl (by decide) (by decide) (by rw [hR.2.2.1 0 (by decide), tref, if_pos (show lawF v (nI 0) < 0 from hl0)]) ?_
    refine E_astore_nN dX10_speechOf_6 (by decide) ?_
    refine E_aload_nN dX10_speechOf_7 rfl ?_
    refine E_nonnullN dX10_speechOf_8 ?_
    refine E_iload_n dX10_speechOf_11 rfl ?_
    refine E_goto dX10_speechOf_12 ?_
    refine E_istore dX10_speechOf_28 (by decide) ?_
    refine E_aload_n dX10_speechOf_30 rfl ?_
    refine P_nat (p := p) (c := c) hR hw hmm hm9 hp hc hk fX10_90 dX10_speechOf_31 ?_
    refine E_iload dX10_speechOf_34 rfl ?_
    refine E_S1i sX10_94 dX10_speechOf_36 (Nat.le_of_ble_eq_true rfl) (s_X11_held ?_)
    refine E_iload_n dX10_speechOf_39 rfl ?_
    refine NV_X10_98 hc rfl dX10_speechOf_40 (Nat.le_of_ble_eq_true rfl) ?_
    refine E_iret dX10_speechOf_43 rfl rfl ?_
    refine q_eq (hq _ hR (WF.rf)) ?_
    rw [plF, if_pos hl0, held_small ⟨a, ha⟩, kdF, hk]
  · obtain ⟨tl, htl9, hlt⟩ := cnt_ix (v := v) (key := 0) (tN v) (i_nlt hl0)
    rw [show cntF v 0 (tN v) = lawF v 0 from rfl] at hlt
    refine E_aload_n dX10_speechOf_0 rfl ?_
    refine L_get fX10_33 dX10_speechOf_1 (by have := (hw).lt; omega) (sh_W hw) rfl ?_
    refine E_ic (v := 0) dX10_speechOf_4 (by decide) ?_
    refine L_aald (j := 0) (q := tb Θ + (86 + 3 * tl)) dX10_speechOf_5 (by have := hw.lt; omega) (sh_Wl hw) rfl rfl (by decide) (by decide) (by rw [hR.2.2.1 0 (by decide), show lawF v (nI 0) = nI tl from hlt, tref, if_neg (nI_pos (by omega)), nI_clamp (by omega)]) ?_
    refine E_astore_n dX10_speechOf_6 (by decide) ?_
    refine E_aload_n dX10_speechOf_7 rfl ?_
    refine E_nonnull dX10_speechOf_8 ?_
    refine E_aload_n dX10_speechOf_15 rfl ?_
    refine E_iload_n dX10_speechOf_16 rfl ?_
    refine E_aload_n dX10_speechOf_17 rfl ?_
    refine P_temp (p := p) hR hw hmm hm9 hp fX10_83 dX10_speechOf_18 ?_
    refine E_aload_n dX10_speechOf_21 rfl ?_
    refine W_get (j := 10) (i := 2) hR hw (by decide) fX10_68 dX10_speechOf_22 ?_
    refine E_V3i vX10_86_8 dX10_speechOf_25 (Nat.le_of_ble_eq_true rfl) (by have := ((isT_mk (t := tl) (by omega))).lt; omega) ((sh_T (isT_mk (t := tl) (by omega))) _) (s_X8_valueOf (t := tl) (by omega) (hok tl (by omega)) (hT tl (by omega)).2.2.1 (hT tl (by omega)).2.2.2 (fun S25 f25 => ?_))
    refine E_istore dX10_speechOf_28 (by decide) ?_
    refine E_aload_n dX10_speechOf_30 rfl ?_
    refine P_nat (p := p) (c := c) (WRep.tf hw (by omega) hR (by omega) f25) hw hmm hm9 hp hc hk fX10_90 dX10_speechOf_31 ?_
    refine E_iload dX10_speechOf_34 rfl ?_
    refine E_S1i sX10_94 dX10_speechOf_36 (Nat.le_of_ble_eq_true rfl) (s_X11_held ?_)
    refine E_iload_n dX10_speechOf_39 rfl ?_
    refine NV_X10_98 hc rfl dX10_speechOf_40 (Nat.le_of_ble_eq_true rfl) ?_
    refine E_iret dX10_speechOf_43 rfl rfl ?_
    refine q_eq (hq _ (WRep.tf hw (by omega) hR (by omega) f25) ((WF.rf).tr (f25.wf (t := tl) (by omega)))) ?_
    rw [plF, if_neg (by rw [hlt]; exact nI_pos (by omega)), hlt, nI_clamp (by omega), held_clamp, kdF, hk]; rfl
theorem s_X10_setOff {Q : HP → Prop} {w : Nat} (hw : isW w) (hR : WRep S w v) {m : Nat} (hmm : mN v = m) (hm9 : m ≤ 9) (hm : v 1 = nI m) (hq : ∀ S', WRep S' w (waV v) → WF w S S' → Q (lay Θ S')) : C Θ (d + 1) 0 0 yX10_setOff cX10_setOff 3 none [.ref (tb Θ + w)] 183 (lay Θ S) (Qv Q) := by
  refine C_of rfl rfl (Nat.le_of_ble_eq_true rfl) ?_
  refine E_aload_n dX10_setOff_0 rfl ?_
  refine E_ic (v := 0) dX10_setOff_1 (by decide) ?_
  refine E_V1i vX10_116_10 dX10_setOff_2 (Nat.le_of_ble_eq_true rfl) (by have := (hw).lt; omega) ((sh_W hw) _) (s_X10_nextAshore hw hR hmm hm9 hm 0 (by omega) rfl ?_)
  rcases hr8 : nxA v (v 5) 0 with _ | p
  · refine E_eq (z := nI m) rfl ?_
    refine E_istore_n dX10_setOff_5 (by decide) ?_
    refine E_aload_n dX10_setOff_6 rfl ?_
    refine E_iload_n dX10_setOff_7 rfl ?_
    refine E_ic (v := 1) dX10_setOff_8 (by decide) ?_
    refine E_iadd dX10_setOff_9 ?_
    refine E_V1i vX10_116_10 dX10_setOff_10 (Nat.le_of_ble_eq_true rfl) (by have := (hw).lt; omega) ((sh_W hw) _) (s_X10_nextAshore hw hR hmm hm9 hm (m + 1) (by omega) (nI_1 m) ?_)
    rw [show nxA v (v 5) (m + 1) = none by rw [nxA, hmm, show m - (m + 1) = 0 by omega]; rfl]
    refine E_eq (z := nI m) rfl ?_
    refine E_istore_n dX10_setOff_13 (by decide) ?_
    refine E_iload_n dX10_setOff_14 rfl ?_
    refine E_aload_n dX10_setOff_15 rfl ?_
    refine W_get (j := 1) (i := 1) hR hw (by decide) fX10_40 dX10_setOff_16 ?_
    refine E_icmp_ge dX10_setOff_19 (fun _ => ?_) (fun c => absurd (by rw [hm]; exact Int32.le_refl _) c)
    refine E_aload_n dX10_setOff_38 rfl ?_
    refine L_get fX10_24 dX10_setOff_39 (by have := (hw).lt; omega) (sh_W hw) rfl ?_
    refine E_ic (v := 3) dX10_setOff_42 (by decide) ?_
    refine E_dup2 dX10_setOff_43 rfl rfl ?_
    refine T_get (j := 3) hR hw dX10_setOff_44 rfl (by decide) ?_
    refine E_ic (v := 1) dX10_setOff_45 (by decide) ?_
    refine E_iadd dX10_setOff_46 ?_
    refine T_put (j := 3) hR hw dX10_setOff_47 rfl (by decide) (fun S47 h47 f47 => ?_)
    refine E_aload_n dX10_setOff_48 rfl ?_
    refine E_ic (v := 1) dX10_setOff_49 (by decide) ?_
    refine E_aload_n dX10_setOff_50 rfl ?_
    refine W_get (j := 2) (i := 5) h47 hw (by decide) fX10_47 dX10_setOff_51 ?_
    refine E_isub dX10_setOff_54 ?_
    refine W_put (j := 2) (i := 5) h47 hw (by decide) fX10_47 dX10_setOff_55 (fun S55 h55 f55 => ?_)
    refine E_vret dX10_setOff_58 rfl rfl ?_
    refine hq _ (WRep_eq h55 ?_) (((WF.rf).tr f47).tr f55)
    simp only [waV, hr8]
    rw [idV, pk_un (by omega)]
  · have hp := nxA_lt hr8
    rw [hmm] at hp
    refine E_eq (z := nI p) rfl ?_
    refine E_istore_n dX10_setOff_5 (by decide) ?_
    refine E_aload_n dX10_setOff_6 rfl ?_
    refine E_iload_n dX10_setOff_7 rfl ?_
    refine E_ic (v := 1) dX10_setOff_8 (by decide) ?_
    refine E_iadd dX10_setOff_9 ?_
    refine E_V1i vX10_116_10 dX10_setOff_10 (Nat.le_of_ble_eq_true rfl) (by have := (hw).lt; omega) ((sh_W hw) _) (s_X10_nextAshore hw hR hmm hm9 hm (p + 1) (by omega) (nI_1 p) ?_)
    rcases hr30 : nxA v (v 5) (p + 1) with _ | o
    · refine E_eq (z := nI m) rfl ?_
      refine E_istore_n dX10_setOff_13 (by decide) ?_
      refine E_iload_n dX10_setOff_14 rfl ?_
      refine E_aload_n dX10_setOff_15 rfl ?_
      refine W_get (j := 1) (i := 1) hR hw (by decide) fX10_40 dX10_setOff_16 ?_
      refine E_icmp_ge dX10_setOff_19 (fun _ => ?_) (fun c => absurd (by rw [hm]; exact Int32.le_refl _) c)
      refine E_aload_n dX10_setOff_38 rfl ?_
      refine L_get fX10_24 dX10_setOff_39 (by have := (hw).lt; omega) (sh_W hw) rfl ?_
      refine E_ic (v := 3) dX10_setOff_42 (by decide) ?_
      refine E_dup2 dX10_setOff_43 rfl rfl ?_
      refine T_get (j := 3) hR hw dX10_setOff_44 rfl (by decide) ?_
      refine E_ic (v := 1) dX10_setOff_45 (by decide) ?_
      refine E_iadd dX10_setOff_46 ?_
      refine T_put (j := 3) hR hw dX10_setOff_47 rfl (by decide) (fun S47 h47 f47 => ?_)
      refine E_aload_n dX10_setOff_48 rfl ?_
      refine E_ic (v := 1) dX10_setOff_49 (by decide) ?_
      refine E_aload_n dX10_setOff_50 rfl ?_
      refine W_get (j := 2) (i := 5) h47 hw (by decide) fX10_47 dX10_setOff_51 ?_
      refine E_isub dX10_setOff_54 ?_
      refine W_put (j := 2) (i := 5) h47 hw (by decide) fX10_47 dX10_setOff_55 (fun S55 h55 f55 => ?_)
      refine E_vret dX10_setOff_58 rfl rfl ?_
      refine hq _ (WRep_eq h55 ?_) (((WF.rf).tr f47).tr f55)
      simp only [waV, hr8, hr30]
      rw [idV, pk_un (by omega)]
    · have ho := nxA_lt hr30
      rw [hmm] at ho
      refine E_eq (z := nI o) rfl ?_
      refine E_istore_n dX10_setOff_13 (by decide) ?_
      refine E_iload_n dX10_setOff_14 rfl ?_
      refine E_aload_n dX10_setOff_15 rfl ?_
      refine W_get (j := 1) (i := 1) hR hw (by decide) fX10_40 dX10_setOff_16 ?_
      refine E_icmp_ge dX10_setOff_19 (fun c => absurd c (by rw [hm]; exact nI_ge (by omega) (by omega))) (fun _ => ?_)
      refine E_aload_n dX10_setOff_22 rfl ?_
      refine E_iload_n dX10_setOff_23 rfl ?_
      refine E_iload_n dX10_setOff_24 rfl ?_
      refine E_aload_n dX10_setOff_25 rfl ?_
      refine E_V0i vX10_119_10 dX10_setOff_26 (Nat.le_of_ble_eq_true rfl) (by have := (hw).lt; omega) ((sh_W hw) _) (s_X10_draw hw hR hmm hm9 (fun S26 h26 f26 => ?_))
      refine E_bipush (v := 6) dX10_setOff_29 (by decide) ?_
      refine E_irem dX10_setOff_31 (by decide) ?_
      refine E_V3v vX10_122_10 dX10_setOff_32 (Nat.le_of_ble_eq_true rfl) (by have := (hw).lt; omega) ((sh_W hw) _) (s_X10_goAboard hw h26 ((mN_upd (by omega)).trans hmm) hm9 p o (by omega) (by omega) (fun S32 h32 f32 => ?_))
      refine E_goto dX10_setOff_35 ?_
      refine E_vret dX10_setOff_58 rfl rfl ?_
      refine hq _ (WRep_eq h32 ?_) (((WF.rf).tr f26).tr f32)
      simp only [waV, hr8, hr30]
      exact go_eq (by omega) (by omega)
end Sp
