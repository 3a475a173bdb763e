/-! what is asked of passengers, on both sides: second part -/
abbrev nobody : Int32 := -1000000005
def toldR (v : WV) (x z : Int32) : Int32 := (ix x (mN v)).elim bad fun p => (ix z 4).elim bad fun k => if k = 3 then woF (v (15 + 9 * p)) (v (17 + 9 * p)) else v (15 + 9 * p + k)
def turnsR (v : WV) (x z : Int32) : Int32 × WV := (ix x (mN v)).elim (bad, v) fun p => (ix z 6).elim (bad, v) fun k => (v (15 + 9 * p), upd v (15 + 9 * p) (nI k))
def boatR (v : WV) (x : Int32) : Int32 := (ix x 5).elim bad fun k => if k < 2 then v (5 + k) else if v 6 = 0 then nobody else v (5 + k)
theorem of0 (p : Nat) : (15 : Int32) + 9 * nI p = nI (15 + 9 * p) := (Int32.add_zero _).symm.trans (ofI p 0)
theorem ix4_no {x : Int32} (h0 : ¬ x = 0) (h1 : ¬ x = 1) (h2 : ¬ x = 2) (h3 : ¬ x = 3) : ix x 4 = none := by
  refine ix_no (by decide) (fun i hi e => ?_)
  rcases (show i = 0 ∨ i = 1 ∨ i = 2 ∨ i = 3 by omega) with rfl | rfl | rfl | rfl
  · exact h0 e
  · exact h1 e
  · exact h2 e
  · exact h3 e
theorem ix5_no {x : Int32} (h0 : ¬ x = 0) (h1 : ¬ x = 1) (h2 : ¬ x = 2) (h3 : ¬ x = 3) (h4 : ¬ x = 4) : ix x 5 = none := by
  refine ix_no (by decide) (fun i hi e => ?_)
  rcases (show i = 0 ∨ i = 1 ∨ i = 2 ∨ i = 3 ∨ i = 4 by omega) with rfl | rfl | rfl | rfl | rfl
  · exact h0 e
  · exact h1 e
  · exact h2 e
  · exact h3 e
  · exact h4 e
section Pr
variable {Θ : Th} {d mc ms : Nat} {y : MethodName} {cc : ByteArray} {nL : Nat} {ret : Option FieldType} {cl sl : Nat} {S : SS} {v : WV} {pc pc' : Nat} {ls : LV} {st : List Value} {Q : QT} {w : Nat}
theorem P_nput {p cp k : Nat} (hR : WRep S w v) (hw : isW w) {m : Nat} (hmm : mN v = m) (hm : m ≤ 9) (hp : p < m) (hk : k < 6) (hF : FA y.cls cp 4 0 (.object "ArguedFerry$Nature") false) (hd : Dc cc pc (.putfield cp) 3 pc') (K : ∀ S', WRep S' w (upd v (15 + 9 * p) (nI k)) → WF w S S' → E Θ d mc ms y cc nL ret cl sl 183 (lay Θ S') pc' ls st Q) : E Θ d mc ms y cc nL ret cl sl 183 (lay Θ S) pc ls (.ref (tb Θ + (14 + k)) :: .ref (tb Θ + (w + 4 + 2 * p)) :: st) Q := by
  subst hmm
  have hP := hw.p (i := p) (by omega)
  have e : Value.ref (tb Θ + (14 + k)) = kref Θ (nI k) := by rw [kref, nI_clamp (by omega)]
  refine L_put (x0 := nI k) hF hd (by have := hP.lt; omega) (sh_P hP) rfl rfl (Nat.le_of_ble_eq_true rfl) ?_ (K _ (hR.pas hm hp (f := 0) (by omega)) (WF.w (by omega) (by omega)))
  rw [e]
  rfl
end Pr
section Pb
variable {Θ : Th} {d : Nat} {S : SS} {v : WV}
theorem r1n {b : Int32} : ¬ ((1 : Int32) = 0 ∧ 0 ≤ b ∧ b ≤ 9) := fun h => absurd h.1 (by decide)
theorem r0n {b : Int32} : ¬ ((0 : Int32) = 1 ∧ 1 ≤ b ∧ b ≤ 99) := fun h => absurd h.1 (by decide)
theorem s_X12_rule {Q : Int32 → HP → Prop} (hv : S 160 = v) {x b : Int32} (hq : ∀ S', S' 160 = (ruleR v x b).2 → MF S S' → Q (ruleR v x b).1 (lay Θ S')) : C Θ (d + 1) 0 0 yX12_rule cX12_rule 3 (some .int) [.ref (tb Θ + 159), .int x, .int b] 183 (lay Θ S) (Qi Q) := by
  refine C_of rfl rfl (Nat.le_of_ble_eq_true rfl) ?_
  refine E_iload_n dX12_rule_0 rfl ?_
  refine E_ic (v := 0) dX12_rule_1 (by decide) ?_
  refine E_ic (v := 1) dX12_rule_2 (by decide) ?_
  refine E_S3i sX12_81 dX12_rule_3 (Nat.le_of_ble_eq_true rfl) (s_X12_in (fun g1a g1b => ?_) (fun g1 => ?_))
  · refine E_if_eq dX12_rule_6 (fun c => absurd c (by decide)) (fun _ => ?_)
    refine E_iload_n dX12_rule_9 rfl ?_
    refine E_iload_n dX12_rule_10 rfl ?_
    refine E_iload_n dX12_rule_11 rfl ?_
    refine E_if_ne dX12_rule_12 (fun c12 => ?_) (fun c12 => ?_)
    · refine E_bipush (v := 99) dX12_rule_20 (by decide) ?_
      have x1 : x = 1 := (two_ix g1a g1b).resolve_left c12
      subst x1
      refine E_S3i sX12_81 dX12_rule_22 (Nat.le_of_ble_eq_true rfl) (s_X12_in (fun g2a g2b => ?_) (fun g2 => ?_))
      · refine E_if_eq dX12_rule_25 (fun c => absurd c (by decide)) (fun _ => ?_)
        refine E_aload_n dX12_rule_28 rfl ?_
        refine E_ic (v := 3) dX12_rule_29 (by decide) ?_
        refine E_iload_n dX12_rule_30 rfl ?_
        refine E_iadd dX12_rule_31 ?_
        refine E_iload_n dX12_rule_32 rfl ?_
        refine E_V2i vX12_122_12 dX12_rule_33 (Nat.le_of_ble_eq_true rfl) (by decide) (sh_159 _) (s_X12_swaps hv 4 rfl (by omega) (fun S33 h33 f33 => ?_))
        refine E_goto dX12_rule_36 ?_
        refine E_iret dX12_rule_41 rfl rfl ?_
        rw [ruleR, if_neg r1n, if_pos ⟨rfl, g2a, g2b⟩] at hq
        exact hq S33 h33 f33
      · refine E_if_eq dX12_rule_25 (fun _ => ?_) (fun c => absurd (by decide) c)
        refine E_ldc dX12_rule_39 kX12_107 ?_
        refine E_iret dX12_rule_41 rfl rfl ?_
        rw [ruleR, if_neg r1n, if_neg (fun h => g2 h.2)] at hq
        exact hq S hv MF.rf
    · refine E_bipush (v := 9) dX12_rule_15 (by decide) ?_
      refine E_goto dX12_rule_17 ?_
      subst c12
      refine E_S3i sX12_81 dX12_rule_22 (Nat.le_of_ble_eq_true rfl) (s_X12_in (fun g2a g2b => ?_) (fun g2 => ?_))
      · refine E_if_eq dX12_rule_25 (fun c => absurd c (by decide)) (fun _ => ?_)
        refine E_aload_n dX12_rule_28 rfl ?_
        refine E_ic (v := 3) dX12_rule_29 (by decide) ?_
        refine E_iload_n dX12_rule_30 rfl ?_
        refine E_iadd dX12_rule_31 ?_
        refine E_iload_n dX12_rule_32 rfl ?_
        refine E_V2i vX12_122_12 dX12_rule_33 (Nat.le_of_ble_eq_true rfl) (by decide) (sh_159 _) (s_X12_swaps hv 3 rfl (by omega) (fun S33 h33 f33 => ?_))
        refine E_goto dX12_rule_36 ?_
        refine E_iret dX12_rule_41 rfl rfl ?_
        rw [ruleR, if_pos ⟨rfl, g2a, g2b⟩] at hq
        exact hq S33 h33 f33
      · refine E_if_eq dX12_rule_25 (fun _ => ?_) (fun c => absurd (by decide) c)
        refine E_ldc dX12_rule_39 kX12_107 ?_
        refine E_iret dX12_rule_41 rfl rfl ?_
        rw [ruleR, if_neg (fun h => g2 h.2), if_neg r0n] at hq
        exact hq S hv MF.rf
  · refine E_if_eq dX12_rule_6 (fun _ => ?_) (fun c => absurd (by decide) c)
    refine E_ldc dX12_rule_39 kX12_107 ?_
    refine E_iret dX12_rule_41 rfl rfl ?_
    rw [ruleR, if_neg (fun h => g1 (by rw [h.1]; decide)), if_neg (fun h => g1 (by rw [h.1]; decide))] at hq
    exact hq S hv MF.rf
theorem s_X11_rule {Q : Int32 → HP → Prop} (hR : WRep S 20 v) {x b : Int32} (hq : ∀ S', WRep S' 20 (ruleR v x b).2 → WF 20 S S' → Q (ruleR v x b).1 (lay Θ S')) : C Θ (d + 1) 0 0 yX11_rule cX11_rule 4 (some .int) [.ref (tb Θ + 0), .int x, .int b] 183 (lay Θ S) (Qi Q) := by
  refine C_of rfl rfl (Nat.le_of_ble_eq_true rfl) ?_
  have hw : isW 20 := isW20
  refine E_iload_n dX11_rule_0 rfl ?_
  refine E_if_ne dX11_rule_1 (fun c1 => ?_) (fun c1 => ?_)
  · refine E_iload_n dX11_rule_32 rfl ?_
    refine E_ic (v := 1) dX11_rule_33 (by decide) ?_
    refine E_icmp_ne dX11_rule_34 (fun c34 => ?_) (fun c34 => ?_)
    · refine E_ldc dX11_rule_65 kX11_105 ?_
      refine E_iret dX11_rule_67 rfl rfl ?_
      rw [ruleR, if_neg (fun h => c1 h.1), if_neg (fun h => c34 h.1)] at hq
      exact hq S hR WF.rf
    · subst c34
      refine E_iload_n dX11_rule_37 rfl ?_
      refine E_ic (v := 1) dX11_rule_38 (by decide) ?_
      refine E_bipush (v := 99) dX11_rule_39 (by decide) ?_
      refine E_S3i sX11_145 dX11_rule_41 (Nat.le_of_ble_eq_true rfl) (s_X11_within (fun g2a g2b => ?_) (fun g2 => ?_))
      · refine E_if_eq dX11_rule_44 (fun c => absurd c (by decide)) (fun _ => ?_)
        refine E_aload_n dX11_rule_47 rfl ?_
        refine L_get fX11_83 dX11_rule_48 (by decide) sh_0 rfl ?_
        refine W_get (j := 8) (i := 4) hR hw (by decide) fX11_157 dX11_rule_51 ?_
        refine E_istore_n dX11_rule_54 (by decide) ?_
        refine E_aload_n dX11_rule_55 rfl ?_
        refine L_get fX11_83 dX11_rule_56 (by decide) sh_0 rfl ?_
        refine E_iload_n dX11_rule_59 rfl ?_
        refine W_put (j := 8) (i := 4) hR hw (by decide) fX11_157 dX11_rule_60 (fun S60 h60 f60 => ?_)
        refine E_iload_n dX11_rule_63 rfl ?_
        refine E_iret dX11_rule_64 rfl rfl ?_
        rw [ruleR, if_neg r1n, if_pos ⟨rfl, g2a, g2b⟩] at hq
        exact hq _ h60 ((WF.rf).tr f60)
      · refine E_if_eq dX11_rule_44 (fun _ => ?_) (fun c => absurd (by decide) c)
        refine E_ldc dX11_rule_65 kX11_105 ?_
        refine E_iret dX11_rule_67 rfl rfl ?_
        rw [ruleR, if_neg r1n, if_neg (fun h => g2 h.2)] at hq
        exact hq S hR WF.rf
  · subst c1
    refine E_iload_n dX11_rule_4 rfl ?_
    refine E_ic (v := 0) dX11_rule_5 (by decide) ?_
    refine E_bipush (v := 9) dX11_rule_6 (by decide) ?_
    refine E_S3i sX11_145 dX11_rule_8 (Nat.le_of_ble_eq_true rfl) (s_X11_within (fun g1a g1b => ?_) (fun g1 => ?_))
    · refine E_if_eq dX11_rule_11 (fun c => absurd c (by decide)) (fun _ => ?_)
      refine E_aload_n dX11_rule_14 rfl ?_
      refine L_get fX11_83 dX11_rule_15 (by decide) sh_0 rfl ?_
      refine W_get (j := 7) (i := 3) hR hw (by decide) fX11_154 dX11_rule_18 ?_
      refine E_istore_n dX11_rule_21 (by decide) ?_
      refine E_aload_n dX11_rule_22 rfl ?_
      refine L_get fX11_83 dX11_rule_23 (by decide) sh_0 rfl ?_
      refine E_iload_n dX11_rule_26 rfl ?_
      refine W_put (j := 7) (i := 3) hR hw (by decide) fX11_154 dX11_rule_27 (fun S27 h27 f27 => ?_)
      refine E_iload_n dX11_rule_30 rfl ?_
      refine E_iret dX11_rule_31 rfl rfl ?_
      rw [ruleR, if_pos ⟨rfl, g1a, g1b⟩] at hq
      exact hq _ h27 ((WF.rf).tr f27)
    · refine E_if_eq dX11_rule_11 (fun _ => ?_) (fun c => absurd (by decide) c)
      refine E_iload_n dX11_rule_32 rfl ?_
      refine E_ic (v := 1) dX11_rule_33 (by decide) ?_
      refine E_icmp_ne dX11_rule_34 (fun _ => ?_) (fun c => absurd c (by decide))
      refine E_ldc dX11_rule_65 kX11_105 ?_
      refine E_iret dX11_rule_67 rfl rfl ?_
      rw [ruleR, if_neg (fun h => g1 h.2), if_neg r0n] at hq
      exact hq S hR WF.rf
theorem s_X12_told {Q : Int32 → HP → Prop} (hv : S 160 = v) {m : Nat} (hm : v 1 = nI m) (hmm : mN v = m) (hm9 : m ≤ 9) {x z : Int32} (hq : Q (toldR v x z) (lay Θ S)) : C Θ (d + 2) 0 0 yX12_told cX12_told 3 (some .int) [.ref (tb Θ + 159), .int x, .int z] 183 (lay Θ S) (Qi Q) := by
  refine C_of rfl rfl (Nat.le_of_ble_eq_true rfl) ?_
  have hm1 : S 160 1 = nI m := by rw [hv]; exact hm
  refine E_aload_n dX12_told_0 rfl ?_
  refine E_iload_n dX12_told_1 rfl ?_
  refine E_V1i vX12_112_12 dX12_told_2 (Nat.le_of_ble_eq_true rfl) (by decide) (sh_159 _) (s_X12_isOne hm1 hm9 (fun g1 => ?_) (fun g1 => ?_))
  · obtain ⟨p, hp, ep, ip⟩ := ix_some (by omega) g1
    refine E_if_eq dX12_told_5 (fun c => absurd c (by decide)) (fun _ => ?_)
    refine E_iload_n dX12_told_8 rfl ?_
    refine E_ic (v := 0) dX12_told_9 (by decide) ?_
    refine E_ic (v := 3) dX12_told_10 (by decide) ?_
    refine E_S3i sX12_81 dX12_told_11 (Nat.le_of_ble_eq_true rfl) (s_X12_in (fun g2a g2b => ?_) (fun g2 => ?_))
    · obtain ⟨k, hk4, ek, ik⟩ := ix_some (by omega) (isIx_le (n := 3) (by decide) g2a g2b)
      refine E_if_ne dX12_told_14 (fun _ => ?_) (fun c => absurd c (by decide))
      refine E_iload_n dX12_told_20 rfl ?_
      refine E_ic (v := 3) dX12_told_21 (by decide) ?_
      refine E_icmp_ge dX12_told_22 (fun c22 => ?_) (fun c22 => ?_)
      · refine E_aload_n dX12_told_34 rfl ?_
        refine E_iload_n dX12_told_35 rfl ?_
        refine E_V1i vX12_116_12 dX12_told_36 (Nat.le_of_ble_eq_true rfl) (by decide) (sh_159 _) (s_X12_worthOf hv p ep (by omega) ?_)
        refine E_iret dX12_told_39 rfl rfl ?_
        have k3 : k = 3 := by rw [ek] at c22; have := (nI_leI (a := 3) (by omega) (by omega)).mp c22; omega
        rw [toldR, hmm, ip, Option.elim, ik, Option.elim, if_pos k3] at hq
        exact hq
      · refine E_aload_n dX12_told_25 rfl ?_
        refine E_iload_n dX12_told_26 rfl ?_
        refine E_iload_n dX12_told_27 rfl ?_
        refine E_V2i vX12_85_12 dX12_told_28 (Nat.le_of_ble_eq_true rfl) (by decide) (sh_159 _) (s_X12_of hv p k (15 + 9 * p + k) ep ek (by omega) rfl ?_)
        refine E_goto dX12_told_31 ?_
        refine E_iret dX12_told_39 rfl rfl ?_
        have k3 : ¬ k = 3 := fun e => c22 (by rw [ek, e]; decide)
        rw [toldR, hmm, ip, Option.elim, ik, Option.elim, if_neg k3] at hq
        exact hq
    · have ik := ix_none (n := 4) (by omega) (fun hh => g2 (isIx_back (n := 3) (by decide) hh))
      refine E_if_ne dX12_told_14 (fun c => absurd rfl c) (fun _ => ?_)
      refine E_ldc dX12_told_17 kX12_107 ?_
      refine E_iret dX12_told_19 rfl rfl ?_
      rw [toldR, hmm, ip, Option.elim, ik] at hq
      exact hq
  · have ip := ix_none (by omega) g1
    refine E_if_eq dX12_told_5 (fun _ => ?_) (fun c => absurd (by decide) c)
    refine E_ldc dX12_told_17 kX12_107 ?_
    refine E_iret dX12_told_19 rfl rfl ?_
    rw [toldR, hmm, ip] at hq
    exact hq
theorem s_X11_told {Q : Int32 → HP → Prop} (hR : WRep S 20 v) {m : Nat} (hm : v 1 = nI m) (hmm : mN v = m) (hm9 : m ≤ 9) (hpa : ∀ p, p < m → paOk v p) {x z : Int32} (hq : Q (toldR v x z) (lay Θ S)) : C Θ (d + 2) 0 0 yX11_told cX11_told 4 (some .int) [.ref (tb Θ + 0), .int x, .int z] 183 (lay Θ S) (Qi Q) := by
  refine C_of rfl rfl (Nat.le_of_ble_eq_true rfl) ?_
  have hw : isW 20 := isW20
  have hm1 : S 20 1 = nI m := (hR.1 (1, 1) (by decide)).trans hm
  refine E_aload_n dX11_told_0 rfl ?_
  refine E_iload_n dX11_told_1 rfl ?_
  refine E_V1i vX11_118_11 dX11_told_2 (Nat.le_of_ble_eq_true rfl) (by decide) (sh_0 _) (s_X11_isOne hm1 hm9 (fun g1 => ?_) (fun g1 => ?_))
  · obtain ⟨p, hp, ep, ip⟩ := ix_some (by omega) g1
    refine E_if_ne dX11_told_5 (fun _ => ?_) (fun c => absurd c (by decide))
    obtain ⟨⟨c, hc, hk⟩, ⟨t, ht, et⟩, -, -⟩ := hpa p hp
    rw [kdF] at hk
    rw [tmF] at et
    refine E_aload_n dX11_told_11 rfl ?_
    refine L_get fX11_83 dX11_told_12 (by decide) sh_0 rfl ?_
    refine L_get fX11_111 dX11_told_15 (by have := (isW20).lt; omega) (sh_W isW20) rfl ?_
    refine E_iload_n dX11_told_18 rfl ?_
    refine L_aald (j := p) dX11_told_19 (by have := (isW20).lt; omega) (sh_Wc isW20) rfl ep (by omega) (by decide) (if_pos (by omega)) ?_
    refine E_astore_n dX11_told_20 (by decide) ?_
    refine E_iload_n dX11_told_21 rfl ?_
    refine E_top (fun x22 hx22 => ?_)
    by_cases k22_0 : x22 = 0
    · refine E_tswI (tgt := 52) dX11_told_22 0 (by rw [k22_0]; decide) (by decide) rfl (by decide) ?_
      refine E_aload_n dX11_told_52 rfl ?_
      refine P_nat (p := p) (c := c) hR hw hmm hm9 hp hc hk fX11_121 dX11_told_53 ?_
      refine NV_X11_125 hc rfl dX11_told_56 (Nat.le_of_ble_eq_true rfl) ?_
      refine E_iret dX11_told_59 rfl rfl ?_
      rw [toldR, hmm, ip, Option.elim, show ix z 4 = some 0 by rw [← hx22, k22_0]; exact ix_nI (i := 0) (by decide) (by decide), Option.elim, if_neg (by decide), Nat.add_zero, hk] at hq
      exact hq
    by_cases k22_1 : x22 = 1
    · refine E_tswI (tgt := 60) dX11_told_22 1 (by rw [k22_1]; decide) (by decide) rfl (by decide) ?_
      refine E_aload_n dX11_told_60 rfl ?_
      refine P_bank (p := p) hR hw hmm hm9 hp fX11_129 dX11_told_61 ?_
      refine E_iret dX11_told_64 rfl rfl ?_
      rw [toldR, hmm, ip, Option.elim, show ix z 4 = some 1 by rw [← hx22, k22_1]; exact ix_nI (i := 1) (by decide) (by decide), Option.elim, if_neg (by decide), show 15 + 9 * p + 1 = 16 + 9 * p by omega] at hq
      exact hq
    by_cases k22_2 : x22 = 2
    · refine E_tswI (tgt := 65) dX11_told_22 2 (by rw [k22_2]; decide) (by decide) rfl (by decide) ?_
      refine E_aload_n dX11_told_65 rfl ?_
      refine P_temp (p := p) hR hw hmm hm9 hp fX11_132 dX11_told_66 ?_
      refine E_iret dX11_told_69 rfl rfl ?_
      rw [toldR, hmm, ip, Option.elim, show ix z 4 = some 2 by rw [← hx22, k22_2]; exact ix_nI (i := 2) (by decide) (by decide), Option.elim, if_neg (by decide), show 15 + 9 * p + 2 = 17 + 9 * p by omega] at hq
      exact hq
    by_cases k22_3 : x22 = 3
    · refine E_tswI (tgt := 70) dX11_told_22 3 (by rw [k22_3]; decide) (by decide) rfl (by decide) ?_
      refine E_aload_n dX11_told_70 rfl ?_
      refine P_nat (p := p) (c := c) hR hw hmm hm9 hp hc hk fX11_121 dX11_told_71 ?_
      refine E_aload_n dX11_told_74 rfl ?_
      refine P_temp (p := p) hR hw hmm hm9 hp fX11_132 dX11_told_75 ?_
      rw [et]
      refine NV_X11_135 ht hc rfl dX11_told_78 (Nat.le_of_ble_eq_true rfl) ?_
      refine E_iret dX11_told_81 rfl rfl ?_
      rw [toldR, hmm, ip, Option.elim, show ix z 4 = some 3 by rw [← hx22, k22_3]; exact ix_nI (i := 3) (by decide) (by decide), Option.elim, if_pos rfl, hk, et] at hq
      exact hq
    refine E_tswO (tgt := 82) dX11_told_22 (by have := ne_toInt (k := 0) (by decide) k22_0; have := ne_toInt (k := 1) (by decide) k22_1; have := ne_toInt (k := 2) (by decide) k22_2; have := ne_toInt (k := 3) (by decide) k22_3; omega) (by decide) ?_
    refine E_ldc dX11_told_82 kX11_105 ?_
    refine E_iret dX11_told_84 rfl rfl ?_
    have ik : ix z 4 = none := ix4_no (hx22 ▸ k22_0) (hx22 ▸ k22_1) (hx22 ▸ k22_2) (hx22 ▸ k22_3)
    rw [toldR, hmm, ip, Option.elim, ik] at hq
    exact hq
  · have ip := ix_none (by omega) g1
    refine E_if_ne dX11_told_5 (fun c => absurd rfl c) (fun _ => ?_)
    refine E_ldc dX11_told_8 kX11_105 ?_
    refine E_iret dX11_told_10 rfl rfl ?_
    rw [toldR, hmm, ip] at hq
    exact hq
theorem s_X12_turns {Q : Int32 → HP → Prop} (hv : S 160 = v) {m : Nat} (hm : v 1 = nI m) (hmm : mN v = m) (hm9 : m ≤ 9) {x z : Int32} (hq : ∀ S', S' 160 = (turnsR v x z).2 → MF S S' → Q (turnsR v x z).1 (lay Θ S')) : C Θ (d + 2) 0 0 yX12_turns cX12_turns 3 (some .int) [.ref (tb Θ + 159), .int x, .int z] 183 (lay Θ S) (Qi Q) := by
  refine C_of rfl rfl (Nat.le_of_ble_eq_true rfl) ?_
  have hm1 : S 160 1 = nI m := by rw [hv]; exact hm
  refine E_aload_n dX12_turns_0 rfl ?_
  refine E_iload_n dX12_turns_1 rfl ?_
  refine E_V1i vX12_112_12 dX12_turns_2 (Nat.le_of_ble_eq_true rfl) (by decide) (sh_159 _) (s_X12_isOne hm1 hm9 (fun g1 => ?_) (fun g1 => ?_))
  · obtain ⟨p, hp, ep, ip⟩ := ix_some (by omega) g1
    refine E_if_eq dX12_turns_5 (fun c => absurd c (by decide)) (fun _ => ?_)
    refine E_iload_n dX12_turns_8 rfl ?_
    refine E_ic (v := 0) dX12_turns_9 (by decide) ?_
    refine E_ic (v := 5) dX12_turns_10 (by decide) ?_
    refine E_S3i sX12_81 dX12_turns_11 (Nat.le_of_ble_eq_true rfl) (s_X12_in (fun g2a g2b => ?_) (fun g2 => ?_))
    · obtain ⟨k, hk6, ek, ik⟩ := ix_some (by omega) (isIx_le (n := 5) (by decide) g2a g2b)
      refine E_if_eq dX12_turns_14 (fun c => absurd c (by decide)) (fun _ => ?_)
      refine E_aload_n dX12_turns_17 rfl ?_
      refine E_bipush (v := 15) dX12_turns_18 (by decide) ?_
      refine E_bipush (v := 9) dX12_turns_20 (by decide) ?_
      refine E_iload_n dX12_turns_22 rfl ?_
      refine E_imul dX12_turns_23 ?_
      refine E_iadd dX12_turns_24 ?_
      refine E_iload_n dX12_turns_25 rfl ?_
      refine E_V2i vX12_122_12 dX12_turns_26 (Nat.le_of_ble_eq_true rfl) (by decide) (sh_159 _) (s_X12_swaps hv (15 + 9 * p) (by rw [ep]; exact of0 p) (by omega) (fun S26 h26 f26 => ?_))
      refine E_goto dX12_turns_29 ?_
      refine E_iret dX12_turns_34 rfl rfl ?_
      rw [turnsR, hmm, ip, Option.elim, ik, Option.elim] at hq
      rw [ek] at h26
      exact hq S26 h26 f26
    · have ik := ix_none (n := 6) (by omega) (fun hh => g2 (isIx_back (n := 5) (by decide) hh))
      refine E_if_eq dX12_turns_14 (fun _ => ?_) (fun c => absurd (by decide) c)
      refine E_ldc dX12_turns_32 kX12_107 ?_
      refine E_iret dX12_turns_34 rfl rfl ?_
      rw [turnsR, hmm, ip, Option.elim, ik] at hq
      exact hq S hv MF.rf
  · have ip := ix_none (by omega) g1
    refine E_if_eq dX12_turns_5 (fun _ => ?_) (fun c => absurd (by decide) c)
    refine E_ldc dX12_turns_32 kX12_107 ?_
    refine E_iret dX12_turns_34 rfl rfl ?_
    rw [turnsR, hmm, ip] at hq
    exact hq S hv MF.rf
theorem s_X11_turns {Q : Int32 → HP → Prop} (hR : WRep S 20 v) {m : Nat} (hm : v 1 = nI m) (hmm : mN v = m) (hm9 : m ≤ 9) (hpa : ∀ p, p < m → paOk v p) {x z : Int32} (hq : ∀ S', WRep S' 20 (turnsR v x z).2 → WF 20 S S' → Q (turnsR v x z).1 (lay Θ S')) : C Θ (d + 2) 0 0 yX11_turns cX11_turns 5 (some .int) [.ref (tb Θ + 0), .int x, .int z] 183 (lay Θ S) (Qi Q) := by
  refine C_of rfl rfl (Nat.le_of_ble_eq_true rfl) ?_
  have hw : isW 20 := isW20
  have hm1 : S 20 1 = nI m := (hR.1 (1, 1) (by decide)).trans hm
  refine E_aload_n dX11_turns_0 rfl ?_
  refine E_iload_n dX11_turns_1 rfl ?_
  refine E_V1i vX11_118_11 dX11_turns_2 (Nat.le_of_ble_eq_true rfl) (by decide) (sh_0 _) (s_X11_isOne hm1 hm9 (fun g1 => ?_) (fun g1 => ?_))
  · obtain ⟨p, hp, ep, ip⟩ := ix_some (by omega) g1
    refine E_if_eq dX11_turns_5 (fun c => absurd c (by decide)) (fun _ => ?_)
    refine E_iload_n dX11_turns_8 rfl ?_
    refine E_S1i sX11_98 dX11_turns_9 (Nat.le_of_ble_eq_true rfl) (s_X11_isKind (fun g2 => ?_) (fun g2 => ?_))
    · obtain ⟨k, hk, ek, ik⟩ := ix_some (by omega) g2
      refine E_if_ne dX11_turns_12 (fun _ => ?_) (fun c => absurd c (by decide))
      obtain ⟨⟨c, hc, hkd⟩, ⟨t, ht, et⟩, -, -⟩ := hpa p hp
      rw [kdF] at hkd
      rw [tmF] at et
      refine E_aload_n dX11_turns_18 rfl ?_
      refine L_get fX11_83 dX11_turns_19 (by decide) sh_0 rfl ?_
      refine L_get fX11_111 dX11_turns_22 (by have := (isW20).lt; omega) (sh_W isW20) rfl ?_
      refine E_iload_n dX11_turns_25 rfl ?_
      refine L_aald (j := p) dX11_turns_26 (by have := (isW20).lt; omega) (sh_Wc isW20) rfl ep (by omega) (by decide) (if_pos (by omega)) ?_
      refine E_astore_n dX11_turns_27 (by decide) ?_
      refine E_aload_n dX11_turns_28 rfl ?_
      refine P_nat (p := p) (c := c) hR hw hmm hm9 hp hc hkd fX11_121 dX11_turns_29 ?_
      refine NV_X11_125 hc rfl dX11_turns_32 (Nat.le_of_ble_eq_true rfl) ?_
      refine E_istore dX11_turns_35 (by decide) ?_
      refine E_aload_n dX11_turns_37 rfl ?_
      refine E_aload_n dX11_turns_38 rfl ?_
      refine L_get fX11_11 dX11_turns_39 (by decide) sh_0 rfl ?_
      refine E_iload_n dX11_turns_42 rfl ?_
      refine L_aald (j := k) dX11_turns_43 (by decide) sh_1 rfl ek hk (by decide) (if_pos hk) ?_
      refine P_nput (p := p) hR hw hmm hm9 hp hk fX11_121 dX11_turns_44 (fun S44 h44 f44 => ?_)
      refine E_iload dX11_turns_47 rfl ?_
      refine E_iret dX11_turns_49 rfl rfl ?_
      rw [turnsR, hmm, ip, Option.elim, ik, Option.elim, hkd] at hq
      exact hq S44 h44 f44
    · have ik := ix_none (by omega) g2
      refine E_if_ne dX11_turns_12 (fun c => absurd rfl c) (fun _ => ?_)
      refine E_ldc dX11_turns_15 kX11_105 ?_
      refine E_iret dX11_turns_17 rfl rfl ?_
      rw [turnsR, hmm, ip, Option.elim, ik] at hq
      exact hq S hR WF.rf
  · have ip := ix_none (by omega) g1
    refine E_if_eq dX11_turns_5 (fun _ => ?_) (fun c => absurd (by decide) c)
    refine E_ldc dX11_turns_15 kX11_105 ?_
    refine E_iret dX11_turns_17 rfl rfl ?_
    rw [turnsR, hmm, ip] at hq
    exact hq S hR WF.rf
theorem bo1 {z : Int32} {k : Nat} (ek : z = nI k) (h : 2 ≤ k) : 7 + z - 2 = nI (5 + k) := by
  rw [ek, show (7 : Int32) + nI k = nI (7 + k) from nI_add 7 k]
  exact (pk_sub (a := 7 + k) (b := 2) (by omega)).trans (congrArg nI (by omega))
theorem s_X12_boat {Q : Int32 → HP → Prop} (hv : S 160 = v) {z : Int32} (hq : Q (boatR v z) (lay Θ S)) : C Θ (d + 1) 0 0 yX12_boat cX12_boat 2 (some .int) [.ref (tb Θ + 159), .int z] 183 (lay Θ S) (Qi Q) := by
  refine C_of rfl rfl (Nat.le_of_ble_eq_true rfl) ?_
  refine E_iload_n dX12_boat_0 rfl ?_
  refine E_ic (v := 0) dX12_boat_1 (by decide) ?_
  refine E_ic (v := 4) dX12_boat_2 (by decide) ?_
  refine E_S3i sX12_81 dX12_boat_3 (Nat.le_of_ble_eq_true rfl) (s_X12_in (fun g2a g2b => ?_) (fun g2 => ?_))
  · obtain ⟨k, hk5, ek, ik⟩ := ix_some (by omega) (isIx_le (n := 4) (by decide) g2a g2b)
    refine E_if_ne dX12_boat_6 (fun _ => ?_) (fun c => absurd c (by decide))
    refine E_iload_n dX12_boat_12 rfl ?_
    refine E_ic (v := 2) dX12_boat_13 (by decide) ?_
    refine E_icmp_ge dX12_boat_14 (fun c14 => ?_) (fun c14 => ?_)
    · have k2 : 2 ≤ k := by rw [ek] at c14; exact (nI_leI (a := 2) (by omega) (by omega)).mp c14
      refine E_aload_n dX12_boat_26 rfl ?_
      refine L_get fX12_9 dX12_boat_27 (by decide) sh_159 rfl ?_
      refine E_bipush (v := 6) dX12_boat_30 (by decide) ?_
      refine N_iald (j := 6) dX12_boat_32 rfl (by decide) hv ?_
      refine E_if_ne dX12_boat_33 (fun c33 => ?_) (fun c33 => ?_)
      · refine E_aload_n dX12_boat_41 rfl ?_
        refine L_get fX12_9 dX12_boat_42 (by decide) sh_159 rfl ?_
        refine E_bipush (v := 7) dX12_boat_45 (by decide) ?_
        refine E_iload_n dX12_boat_47 rfl ?_
        refine E_iadd dX12_boat_48 ?_
        refine E_ic (v := 2) dX12_boat_49 (by decide) ?_
        refine E_isub dX12_boat_50 ?_
        refine N_iald (j := 5 + k) dX12_boat_51 (bo1 ek k2) (by omega) hv ?_
        refine E_iret dX12_boat_52 rfl rfl ?_
        rw [boatR, ik, Option.elim, if_neg (by omega), if_neg c33] at hq
        exact hq
      · refine E_ldc dX12_boat_36 kX12_136 ?_
        refine E_goto dX12_boat_38 ?_
        refine E_iret dX12_boat_52 rfl rfl ?_
        rw [boatR, ik, Option.elim, if_neg (by omega), if_pos c33] at hq
        exact hq
    · refine E_aload_n dX12_boat_17 rfl ?_
      refine L_get fX12_9 dX12_boat_18 (by decide) sh_159 rfl ?_
      refine E_ic (v := 5) dX12_boat_21 (by decide) ?_
      refine E_iload_n dX12_boat_22 rfl ?_
      refine E_iadd dX12_boat_23 ?_
      refine N_iald (j := 5 + k) dX12_boat_24 (by rw [ek]; exact nI_add 5 k) (by omega) hv ?_
      refine E_iret dX12_boat_25 rfl rfl ?_
      have k2 : k < 2 := Nat.lt_of_not_le (fun h => c14 (by rw [ek]; exact nI_le (a := 2) h (by omega)))
      rw [boatR, ik, Option.elim, if_pos k2] at hq
      exact hq
  · have ik := ix_none (n := 5) (by omega) (fun hh => g2 (isIx_back (n := 4) (by decide) hh))
    refine E_if_ne dX12_boat_6 (fun c => absurd rfl c) (fun _ => ?_)
    refine E_ldc dX12_boat_9 kX12_107 ?_
    refine E_iret dX12_boat_11 rfl rfl ?_
    rw [boatR, ik] at hq
    exact hq
theorem s_X11_boat {Q : Int32 → HP → Prop} (hR : WRep S 20 v) {g : Nat} (hg : g < 30) (e6 : v 6 = nI g) {z : Int32} (hq : Q (boatR v z) (lay Θ S)) : C Θ d 0 0 yX11_boat cX11_boat 3 (some .int) [.ref (tb Θ + 0), .int z] 183 (lay Θ S) (Qi Q) := by
  refine C_of rfl rfl (Nat.le_of_ble_eq_true rfl) ?_
  have hw : isW 20 := isW20
  refine E_aload_n dX11_boat_0 rfl ?_
  refine L_get fX11_83 dX11_boat_1 (by decide) sh_0 rfl ?_
  refine W_get (j := 3) (i := 6) hR hw (by decide) fX11_172 dX11_boat_4 ?_
  refine E_if_le dX11_boat_7 (fun c7 => ?_) (fun c7 => ?_)
  · have w0 : v 6 = 0 := by
      rw [e6] at c7 ⊢
      rw [show g = 0 from Nat.le_zero.mp ((nI_leI (by omega) (by omega)).mp c7)]
      rfl
    refine E_ic (v := 0) dX11_boat_14 (by decide) ?_
    refine E_istore_n dX11_boat_15 (by decide) ?_
    refine E_iload_n dX11_boat_16 rfl ?_
    refine E_top (fun x17 hx17 => ?_)
    by_cases k17_0 : x17 = 0
    · refine E_tswI (tgt := 52) dX11_boat_17 0 (by rw [k17_0]; decide) (by decide) rfl (by decide) ?_
      refine E_aload_n dX11_boat_52 rfl ?_
      refine L_get fX11_83 dX11_boat_53 (by decide) sh_0 rfl ?_
      refine W_get (j := 2) (i := 5) hR hw (by decide) fX11_175 dX11_boat_56 ?_
      refine E_iret dX11_boat_59 rfl rfl ?_
      rw [boatR, show ix z 5 = some 0 by rw [← hx17, k17_0]; exact ix_nI (i := 0) (by decide) (by decide), Option.elim, if_pos (by decide)] at hq
      exact hq
    by_cases k17_1 : x17 = 1
    · refine E_tswI (tgt := 60) dX11_boat_17 1 (by rw [k17_1]; decide) (by decide) rfl (by decide) ?_
      refine E_aload_n dX11_boat_60 rfl ?_
      refine L_get fX11_83 dX11_boat_61 (by decide) sh_0 rfl ?_
      refine W_get (j := 3) (i := 6) hR hw (by decide) fX11_172 dX11_boat_64 ?_
      refine E_iret dX11_boat_67 rfl rfl ?_
      rw [boatR, show ix z 5 = some 1 by rw [← hx17, k17_1]; exact ix_nI (i := 1) (by decide) (by decide), Option.elim, if_pos (by decide)] at hq
      exact hq
    by_cases k17_2 : x17 = 2
    · refine E_tswI (tgt := 68) dX11_boat_17 2 (by rw [k17_2]; decide) (by decide) rfl (by decide) ?_
      refine E_iload_n dX11_boat_68 rfl ?_
      refine E_if_eq dX11_boat_69 (fun _ => ?_) (fun c => absurd (by decide) c)
      refine E_ldc dX11_boat_82 kX11_181 ?_
      refine E_iret dX11_boat_84 rfl rfl ?_
      rw [boatR, show ix z 5 = some 2 by rw [← hx17, k17_2]; exact ix_nI (i := 2) (by decide) (by decide), Option.elim, if_neg (by decide), if_pos w0] at hq
      exact hq
    by_cases k17_3 : x17 = 3
    · refine E_tswI (tgt := 85) dX11_boat_17 3 (by rw [k17_3]; decide) (by decide) rfl (by decide) ?_
      refine E_iload_n dX11_boat_85 rfl ?_
      refine E_if_eq dX11_boat_86 (fun _ => ?_) (fun c => absurd (by decide) c)
      refine E_ldc dX11_boat_99 kX11_181 ?_
      refine E_iret dX11_boat_101 rfl rfl ?_
      rw [boatR, show ix z 5 = some 3 by rw [← hx17, k17_3]; exact ix_nI (i := 3) (by decide) (by decide), Option.elim, if_neg (by decide), if_pos w0] at hq
      exact hq
    by_cases k17_4 : x17 = 4
    · refine E_tswI (tgt := 102) dX11_boat_17 4 (by rw [k17_4]; decide) (by decide) rfl (by decide) ?_
      refine E_iload_n dX11_boat_102 rfl ?_
      refine E_if_eq dX11_boat_103 (fun _ => ?_) (fun c => absurd (by decide) c)
      refine E_ldc dX11_boat_116 kX11_181 ?_
      refine E_iret dX11_boat_118 rfl rfl ?_
      rw [boatR, show ix z 5 = some 4 by rw [← hx17, k17_4]; exact ix_nI (i := 4) (by decide) (by decide), Option.elim, if_neg (by decide), if_pos w0] at hq
      exact hq
    refine E_tswO (tgt := 119) dX11_boat_17 (by have := ne_toInt (k := 0) (by decide) k17_0; have := ne_toInt (k := 1) (by decide) k17_1; have := ne_toInt (k := 2) (by decide) k17_2; have := ne_toInt (k := 3) (by decide) k17_3; have := ne_toInt (k := 4) (by decide) k17_4; omega) (by decide) ?_
    refine E_ldc dX11_boat_119 kX11_105 ?_
    refine E_iret dX11_boat_121 rfl rfl ?_
    rw [boatR, show ix z 5 = none from ix5_no (hx17 ▸ k17_0) (hx17 ▸ k17_1) (hx17 ▸ k17_2) (hx17 ▸ k17_3) (hx17 ▸ k17_4)] at hq
    exact hq
  · have w0 : ¬ v 6 = 0 := fun e => c7 (by rw [e]; decide)
    refine E_ic (v := 1) dX11_boat_10 (by decide) ?_
    refine E_goto dX11_boat_11 ?_
    refine E_istore_n dX11_boat_15 (by decide) ?_
    refine E_iload_n dX11_boat_16 rfl ?_
    refine E_top (fun x17 hx17 => ?_)
    by_cases k17_0 : x17 = 0
    · refine E_tswI (tgt := 52) dX11_boat_17 0 (by rw [k17_0]; decide) (by decide) rfl (by decide) ?_
      refine E_aload_n dX11_boat_52 rfl ?_
      refine L_get fX11_83 dX11_boat_53 (by decide) sh_0 rfl ?_
      refine W_get (j := 2) (i := 5) hR hw (by decide) fX11_175 dX11_boat_56 ?_
      refine E_iret dX11_boat_59 rfl rfl ?_
      rw [boatR, show ix z 5 = some 0 by rw [← hx17, k17_0]; exact ix_nI (i := 0) (by decide) (by decide), Option.elim, if_pos (by decide)] at hq
      exact hq
    by_cases k17_1 : x17 = 1
    · refine E_tswI (tgt := 60) dX11_boat_17 1 (by rw [k17_1]; decide) (by decide) rfl (by decide) ?_
      refine E_aload_n dX11_boat_60 rfl ?_
      refine L_get fX11_83 dX11_boat_61 (by decide) sh_0 rfl ?_
      refine W_get (j := 3) (i := 6) hR hw (by decide) fX11_172 dX11_boat_64 ?_
      refine E_iret dX11_boat_67 rfl rfl ?_
      rw [boatR, show ix z 5 = some 1 by rw [← hx17, k17_1]; exact ix_nI (i := 1) (by decide) (by decide), Option.elim, if_pos (by decide)] at hq
      exact hq
    by_cases k17_2 : x17 = 2
    · refine E_tswI (tgt := 68) dX11_boat_17 2 (by rw [k17_2]; decide) (by decide) rfl (by decide) ?_
      refine E_iload_n dX11_boat_68 rfl ?_
      refine E_if_eq dX11_boat_69 (fun c => absurd c (by decide)) (fun _ => ?_)
      refine E_aload_n dX11_boat_72 rfl ?_
      refine L_get fX11_83 dX11_boat_73 (by decide) sh_0 rfl ?_
      refine W_get (j := 4) (i := 7) hR hw (by decide) fX11_178 dX11_boat_76 ?_
      refine E_goto dX11_boat_79 ?_
      refine E_iret dX11_boat_84 rfl rfl ?_
      rw [boatR, show ix z 5 = some 2 by rw [← hx17, k17_2]; exact ix_nI (i := 2) (by decide) (by decide), Option.elim, if_neg (by decide), if_neg w0] at hq
      exact hq
    by_cases k17_3 : x17 = 3
    · refine E_tswI (tgt := 85) dX11_boat_17 3 (by rw [k17_3]; decide) (by decide) rfl (by decide) ?_
      refine E_iload_n dX11_boat_85 rfl ?_
      refine E_if_eq dX11_boat_86 (fun c => absurd c (by decide)) (fun _ => ?_)
      refine E_aload_n dX11_boat_89 rfl ?_
      refine L_get fX11_83 dX11_boat_90 (by decide) sh_0 rfl ?_
      refine W_get (j := 5) (i := 8) hR hw (by decide) fX11_182 dX11_boat_93 ?_
      refine E_goto dX11_boat_96 ?_
      refine E_iret dX11_boat_101 rfl rfl ?_
      rw [boatR, show ix z 5 = some 3 by rw [← hx17, k17_3]; exact ix_nI (i := 3) (by decide) (by decide), Option.elim, if_neg (by decide), if_neg w0] at hq
      exact hq
    by_cases k17_4 : x17 = 4
    · refine E_tswI (tgt := 102) dX11_boat_17 4 (by rw [k17_4]; decide) (by decide) rfl (by decide) ?_
      refine E_iload_n dX11_boat_102 rfl ?_
      refine E_if_eq dX11_boat_103 (fun c => absurd c (by decide)) (fun _ => ?_)
      refine E_aload_n dX11_boat_106 rfl ?_
      refine L_get fX11_83 dX11_boat_107 (by decide) sh_0 rfl ?_
      refine W_get (j := 6) (i := 9) hR hw (by decide) fX11_185 dX11_boat_110 ?_
      refine E_goto dX11_boat_113 ?_
      refine E_iret dX11_boat_118 rfl rfl ?_
      rw [boatR, show ix z 5 = some 4 by rw [← hx17, k17_4]; exact ix_nI (i := 4) (by decide) (by decide), Option.elim, if_neg (by decide), if_neg w0] at hq
      exact hq
    refine E_tswO (tgt := 119) dX11_boat_17 (by have := ne_toInt (k := 0) (by decide) k17_0; have := ne_toInt (k := 1) (by decide) k17_1; have := ne_toInt (k := 2) (by decide) k17_2; have := ne_toInt (k := 3) (by decide) k17_3; have := ne_toInt (k := 4) (by decide) k17_4; omega) (by decide) ?_
    refine E_ldc dX11_boat_119 kX11_105 ?_
    refine E_iret dX11_boat_121 rfl rfl ?_
    rw [boatR, show ix z 5 = none from ix5_no (hx17 ▸ k17_0) (hx17 ▸ k17_1) (hx17 ▸ k17_2) (hx17 ▸ k17_3) (hx17 ▸ k17_4)] at hq
    exact hq
end Pb
