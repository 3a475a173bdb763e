/-! the class: arguing, minutes -/
theorem ap_sym : ∀ a b : Fin 7, apF (nI a.val - 3) (nI b.val - 3) = apF (nI b.val - 3) (nI a.val - 3) := by decide +kernel
theorem apV_sym {v : WV} {p o j : Nat} (hp : paOk v p) (ho : paOk v o) (hj : j < 6) : apV v o p j = apV v p o j := by
  obtain ⟨a, ha, ea⟩ := hp.2.2.2 j hj
  obtain ⟨b, hb, eb⟩ := ho.2.2.2 j hj
  rw [apV, apV, ea, eb]
  exact ap_sym ⟨b, hb⟩ ⟨a, ha⟩
theorem TRep.keep {S S' : SS} {v u : WV} {w : Nat} (hw : isW w) (h : TRep S v) (hf : WF w S S') (hv : eqHi v u) (h14 : u 14 = v 14) (htn : tN v ≤ 14) : TRep S' u := by
  intro t ht
  have e14 : tN u = tN v := by rw [tN, tN, h14]
  rw [e14] at ht
  have hl : w < 65 := by rcases hw with rfl | rfl | rfl <;> decide
  obtain ⟨h1, h2, h3, h4⟩ := h t ht
  have e1 : S' (86 + 3 * t) = S (86 + 3 * t) := hf _ (Or.inr (by omega)) (fun i hi => by omega)
  have e2 : S' (86 + 3 * t + 1) = S (86 + 3 * t + 1) := hf _ (Or.inr (by omega)) (fun i hi => by omega)
  refine ⟨by rw [e1, hv _ (by omega)]; exact h1, by rw [e1, hv _ (by omega)]; exact h2, by rw [e1, ln_hi hv]; exact h3, fun k hk => ?_⟩
  rw [ln_hi hv] at hk
  rw [e2, cd_hi hv]
  exact h4 k hk
theorem way_eq {x y : Int32} : x - (1 + y) = x + ((-1) - y) := by
  rw [Int32.sub_eq_add_neg, Int32.sub_eq_add_neg, Int32.neg_add, Int32.sub_eq_add_neg]
theorem mN_q4 {v : WV} {p o j : Nat} : mN (q4V v p o j) = mN v := by rw [q4V, mN_upd (by omega), mN_upd (by omega)]
theorem mN_q1 {v : WV} {p o j : Nat} : mN (q1V v p o j) = mN v := by rw [q1V, mN_upd (by omega)]
theorem mN_q2 {v : WV} {p o j : Nat} : mN (q2V v p o j) = mN v := by rw [q2V, mN_upd (by omega)]
theorem ap_q1 {v : WV} {p o j x y k : Nat} : apV (q1V v p o j) x y k = apV v x y k := by rw [apV, apV, vwF, vwF, vwF, vwF, q1V, pk_un (by omega), pk_un (by omega)]
theorem ap_q2 {v : WV} {p o j x y k : Nat} (hk : k < 6) : apV (q2V v p o j) x y k = apV v x y k := by rw [apV, apV, vwF, vwF, vwF, vwF, q2V, pk_un (by omega), pk_un (by omega)]
theorem q2_eq {u : WV} {p o j : Nat} {a : Int32} (e : apV u p o j = a) : upd u (17 + 9 * p) (clampF (tmF u p + htF (kdF u p) a) 0 99) = q2V u p o j := by rw [q2V, htV, e]
section Ar
variable {Θ : Th} {d : Nat} {S : SS} {v : WV}
theorem s_X10_shiftViews {Q : HP → Prop} {w : Nat} (hw : isW w) (hR : WRep S w v) {m : Nat} (hmm : mN v = m) (hm9 : m ≤ 9) (p o j : Nat) (hpo : p ≠ o) (hp : p < m) (ho : o < m) (hj6 : j < 6) (hc : IC v m) (h7 : v 7 = nI p) (h8 : v 8 = nI o) (h9 : v 9 = nI j) (hq : ∀ S', WRep S' w (if apV (q4V v p o j) p o j = 0 then upd (drawV (q4V v p o j)) 9 (rem6 (drawR (q4V v p o j))) else q4V v p o j) → WF w S S' → Q (lay Θ S')) : C Θ (d + 3) 0 0 yX10_shiftViews cX10_shiftViews 4 none [.ref (tb Θ + w), .ref (tb Θ + (w + 4 + 2 * p)), .ref (tb Θ + (w + 4 + 2 * o))] 183 (lay Θ S) (Qv Q) := by
  refine C_of rfl rfl (Nat.le_of_ble_eq_true rfl) ?_
  obtain ⟨⟨cp, hcp, hkp⟩, -, -, hvp⟩ := hc.1.2.2 p hp
  obtain ⟨⟨co, hco, hko⟩, -, -, hvo⟩ := hc.1.2.2 o ho
  rw [kdF] at hkp hko
  obtain ⟨a, ha, ea⟩ := hvp j hj6
  obtain ⟨b, hb, eb⟩ := hvo j hj6
  refine E_aload_n dX10_shiftViews_0 rfl ?_
  refine P_views (p := p) hw (by omega) fX10_144 dX10_shiftViews_1 ?_
  refine E_aload_n dX10_shiftViews_4 rfl ?_
  refine W_get (j := 6) (i := 9) hR hw (by decide) fX10_59 dX10_shiftViews_5 ?_
  refine V_get (p := p) (j := j) hR hw hmm hm9 hp dX10_shiftViews_8 h9 hj6 ?_
  refine E_istore_n dX10_shiftViews_9 (by decide) ?_
  refine E_aload_n dX10_shiftViews_10 rfl ?_
  refine P_views (p := p) hw (by omega) fX10_144 dX10_shiftViews_11 ?_
  refine E_aload_n dX10_shiftViews_14 rfl ?_
  refine W_get (j := 6) (i := 9) hR hw (by decide) fX10_59 dX10_shiftViews_15 ?_
  refine E_aload_n dX10_shiftViews_18 rfl ?_
  refine P_nat (p := p) (c := cp) hR hw hmm hm9 hp hcp hkp fX10_90 dX10_shiftViews_19 ?_
  refine E_iload_n dX10_shiftViews_22 rfl ?_
  refine E_aload_n dX10_shiftViews_23 rfl ?_
  refine P_views (p := o) hw (by omega) fX10_144 dX10_shiftViews_24 ?_
  refine E_aload_n dX10_shiftViews_27 rfl ?_
  refine W_get (j := 6) (i := 9) hR hw (by decide) fX10_59 dX10_shiftViews_28 ?_
  refine V_get (p := o) (j := j) hR hw hmm hm9 ho dX10_shiftViews_31 h9 hj6 ?_
  rw [ea, eb]
  refine NV_X10_147 ha hb hcp rfl dX10_shiftViews_32 (Nat.le_of_ble_eq_true rfl) ?_
  refine V_put (p := p) (j := j) hR hw hmm hm9 hp dX10_shiftViews_35 h9 hj6 (fun S35 h35 f35 => ?_)
  refine E_aload_n dX10_shiftViews_36 rfl ?_
  refine P_views (p := o) hw (by omega) fX10_144 dX10_shiftViews_37 ?_
  refine E_aload_n dX10_shiftViews_40 rfl ?_
  refine W_get (j := 6) (i := 9) h35 hw (by decide) fX10_59 dX10_shiftViews_41 ?_
  refine E_aload_n dX10_shiftViews_44 rfl ?_
  refine P_nat (p := o) (c := co) h35 hw ((mN_upd (by omega)).trans hmm) hm9 ho hco (by rw [pk_un (by omega)]; exact hko) fX10_90 dX10_shiftViews_45 ?_
  refine E_aload_n dX10_shiftViews_48 rfl ?_
  refine P_views (p := o) hw (by omega) fX10_144 dX10_shiftViews_49 ?_
  refine E_aload_n dX10_shiftViews_52 rfl ?_
  refine W_get (j := 6) (i := 9) h35 hw (by decide) fX10_59 dX10_shiftViews_53 ?_
  refine V_get (p := o) (j := j) h35 hw ((mN_upd (by omega)).trans hmm) hm9 ho dX10_shiftViews_56 (by rw [pk_un (by omega)]; exact h9) hj6 ?_
  rw [show vwF (upd v (18 + 9 * p + j) (shF (nI cp) (nI a - 3) (nI b - 3))) o j = nI b - 3 by rw [vwF, pk_un (by omega)]; exact eb]
  refine E_iload_n dX10_shiftViews_57 rfl ?_
  refine NV_X10_147 hb ha hco rfl dX10_shiftViews_58 (Nat.le_of_ble_eq_true rfl) ?_
  refine V_put (p := o) (j := j) h35 hw ((mN_upd (by omega)).trans hmm) hm9 ho dX10_shiftViews_61 (by rw [pk_un (by omega)]; exact h9) hj6 (fun S61 h61 f61 => ?_)
  have h99 := WRep_eq h61 (show _ = q4V v p o j by rw [q4V, upd_comm (by omega), shV, shV, kdF, kdF, hkp, hko, ea, eb])
  refine E_aload_n dX10_shiftViews_62 rfl ?_
  refine E_aload_n dX10_shiftViews_63 rfl ?_
  refine E_aload_n dX10_shiftViews_64 rfl ?_
  refine W_get (j := 6) (i := 9) h99 hw (by decide) fX10_59 dX10_shiftViews_65 ?_
  refine E_V2i vX10_126_4 dX10_shiftViews_68 (Nat.le_of_ble_eq_true rfl) (by have := (hw.p (i := p) (by omega)).lt; omega) ((sh_P (hw.p (i := p) (by omega))) _) (s_X4_apartFrom hw h99 (mN_q4.trans hmm) hm9 p o j hp ho (by rw [q4V, pk_un (by omega), pk_un (by omega)]; exact h9) hj6 ?_)
  refine E_if_ne dX10_shiftViews_71 (fun c71 => ?_) (fun c71 => ?_)
  · refine E_vret dX10_shiftViews_85 rfl rfl ?_
    refine hq _ (WRep_eq h99 ?_) (((WF.rf).tr f35).tr f61)
    rw [if_neg c71]
  · refine E_aload_n dX10_shiftViews_74 rfl ?_
    refine E_aload_n dX10_shiftViews_75 rfl ?_
    refine E_V0i vX10_119_10 dX10_shiftViews_76 (Nat.le_of_ble_eq_true rfl) (by have := (hw).lt; omega) ((sh_W hw) _) (s_X10_draw hw h99 (mN_q4.trans hmm) hm9 (fun S76 h76 f76 => ?_))
    refine E_bipush (v := 6) dX10_shiftViews_79 (by decide) ?_
    refine E_irem dX10_shiftViews_81 (by decide) ?_
    refine W_put (j := 6) (i := 9) h76 hw (by decide) fX10_59 dX10_shiftViews_82 (fun S82 h82 f82 => ?_)
    refine E_vret dX10_shiftViews_85 rfl rfl ?_
    refine hq _ (WRep_eq h82 ?_) (((((WF.rf).tr f35).tr f61).tr f76).tr f82)
    rw [if_pos c71]
    rfl
theorem l_X10_argueOn89 {Q : HP → Prop} {w : Nat} (hw : isW w) (hR : WRep S w v) {m : Nat} (hmm : mN v = m) (hm9 : m ≤ 9) (p o j : Nat) (hpo : p ≠ o) (hp : p < m) (ho : o < m) (hj6 : j < 6) (hc : IC v m) (h7 : v 7 = nI p) (h8 : v 8 = nI o) (h9 : v 9 = nI j) {a : Nat} (hq : ∀ S', WRep S' w (quE v p o j) → WF w S S' → Q (lay Θ S')) : E Θ (d + 4) 0 0 yX10_argueOn cX10_argueOn 4 none 0 0 183 (lay Θ S) 89 [(3, .int (nI a)), (2, .ref (tb Θ + (w + 4 + 2 * o))), (1, .ref (tb Θ + (w + 4 + 2 * p))), (0, .ref (tb Θ + w))] [] (Qv Q) := by
  refine E_aload_n dX10_argueOn_89 rfl ?_
  refine P_temp (p := p) hR hw hmm hm9 hp fX10_83 dX10_argueOn_90 ?_
  refine E_aload_n dX10_argueOn_93 rfl ?_
  refine P_temp (p := o) hR hw hmm hm9 ho fX10_83 dX10_argueOn_94 ?_
  refine E_iadd dX10_argueOn_97 ?_
  refine E_aload_n dX10_argueOn_98 rfl ?_
  refine W_get (j := 8) (i := 4) hR hw (by decide) fX10_21 dX10_argueOn_99 ?_
  refine E_icmp_lt dX10_argueOn_102 (fun c102 => ?_) (fun c102 => ?_)
  · refine E_aload_n dX10_argueOn_132 rfl ?_
    refine W_get (j := 3) (i := 6) hR hw (by decide) fX10_50 dX10_argueOn_133 ?_
    refine E_bipush (v := 30) dX10_argueOn_136 (by decide) ?_
    refine E_icmp_lt dX10_argueOn_138 (fun c138 => ?_) (fun c138 => ?_)
    · refine E_aload_n dX10_argueOn_168 rfl ?_
      refine W_get (j := 3) (i := 6) hR hw (by decide) fX10_50 dX10_argueOn_169 ?_
      refine E_if_gt dX10_argueOn_172 (fun c172 => ?_) (fun c172 => ?_)
      · refine E_aload_n dX10_argueOn_192 rfl ?_
        refine E_aload_n dX10_argueOn_193 rfl ?_
        refine E_aload_n dX10_argueOn_194 rfl ?_
        refine E_V2v vX10_140_10 dX10_argueOn_195 (Nat.le_of_ble_eq_true rfl) (by have := (hw).lt; omega) ((sh_W hw) _) (s_X10_shiftViews hw hR hmm hm9 p o j hpo hp ho hj6 hc h7 h8 h9 (fun S195 h195 f195 => ?_))
        refine E_vret dX10_argueOn_198 rfl rfl ?_
        refine hq _ (WRep_eq h195 ?_) ((WF.rf).tr f195)
        rw [quE, if_neg (show ¬ v 4 ≤ tmF v p + tmF v o from i_le c102), if_neg (i_le c138), if_neg (i_le c172)]
      · refine E_aload_n dX10_argueOn_175 rfl ?_
        refine L_get fX10_24 dX10_argueOn_176 (by have := (hw).lt; omega) (sh_W hw) rfl ?_
        refine E_ic (v := 1) dX10_argueOn_179 (by decide) ?_
        refine E_dup2 dX10_argueOn_180 rfl rfl ?_
        refine T_get (j := 1) hR hw dX10_argueOn_181 rfl (by decide) ?_
        refine E_ic (v := 1) dX10_argueOn_182 (by decide) ?_
        refine E_iadd dX10_argueOn_183 ?_
        refine T_put (j := 1) hR hw dX10_argueOn_184 rfl (by decide) (fun S184 h184 f184 => ?_)
        refine E_aload_n dX10_argueOn_185 rfl ?_
        refine E_V0v vX10_137_10 dX10_argueOn_186 (Nat.le_of_ble_eq_true rfl) (by have := (hw).lt; omega) ((sh_W hw) _) (s_X10_goAshore hw h184 ((mN_upd (by omega)).trans hmm) hm9 p o hp ho (by rw [pk_un (by omega)]; exact h7) (by rw [pk_un (by omega)]; exact h8) (fun S186 h186 f186 => ?_))
        refine E_goto dX10_argueOn_189 ?_
        refine E_vret dX10_argueOn_198 rfl rfl ?_
        refine hq _ (WRep_eq h186 ?_) (((WF.rf).tr f184).tr f186)
        rw [quE, if_neg (show ¬ v 4 ≤ tmF v p + tmF v o from i_le c102), if_neg (i_le c138), if_pos (i_nlt c172), ← to_sh, pk_un (by omega)]
    · refine E_aload_n dX10_argueOn_141 rfl ?_
      refine L_get fX10_24 dX10_argueOn_142 (by have := (hw).lt; omega) (sh_W hw) rfl ?_
      refine E_ic (v := 0) dX10_argueOn_145 (by decide) ?_
      refine E_dup2 dX10_argueOn_146 rfl rfl ?_
      refine T_get (j := 0) hR hw dX10_argueOn_147 rfl (by decide) ?_
      refine E_ic (v := 2) dX10_argueOn_148 (by decide) ?_
      refine E_iadd dX10_argueOn_149 ?_
      refine T_put (j := 0) hR hw dX10_argueOn_150 rfl (by decide) (fun S150 h150 f150 => ?_)
      refine E_aload_n dX10_argueOn_151 rfl ?_
      refine E_ic (v := 1) dX10_argueOn_152 (by decide) ?_
      refine E_aload_n dX10_argueOn_153 rfl ?_
      refine W_get (j := 2) (i := 5) h150 hw (by decide) fX10_47 dX10_argueOn_154 ?_
      refine E_isub dX10_argueOn_157 ?_
      refine W_put (j := 2) (i := 5) h150 hw (by decide) fX10_47 dX10_argueOn_158 (fun S158 h158 f158 => ?_)
      refine E_aload_n dX10_argueOn_161 rfl ?_
      refine E_V0v vX10_137_10 dX10_argueOn_162 (Nat.le_of_ble_eq_true rfl) (by have := (hw).lt; omega) ((sh_W hw) _) (s_X10_goAshore hw h158 ((mN_upd (by omega)).trans ((mN_upd (by omega)).trans hmm)) hm9 p o hp ho (by rw [pk_un (by omega), pk_un (by omega)]; exact h7) (by rw [pk_un (by omega), pk_un (by omega)]; exact h8) (fun S162 h162 f162 => ?_))
      refine E_goto dX10_argueOn_165 ?_
      refine E_vret dX10_argueOn_198 rfl rfl ?_
      refine hq _ (WRep_eq h162 ?_) ((((WF.rf).tr f150).tr f158).tr f162)
      rw [quE, if_neg (show ¬ v 4 ≤ tmF v p + tmF v o from i_le c102), if_pos (i_nlt c138), ← to_sh, to_over, pk_us, pk_un (by omega)]
  · refine E_aload_n dX10_argueOn_105 rfl ?_
    refine L_get fX10_24 dX10_argueOn_106 (by have := (hw).lt; omega) (sh_W hw) rfl ?_
    refine E_ic (v := 2) dX10_argueOn_109 (by decide) ?_
    refine E_dup2 dX10_argueOn_110 rfl rfl ?_
    refine T_get (j := 2) hR hw dX10_argueOn_111 rfl (by decide) ?_
    refine E_ic (v := 1) dX10_argueOn_112 (by decide) ?_
    refine E_iadd dX10_argueOn_113 ?_
    refine T_put (j := 2) hR hw dX10_argueOn_114 rfl (by decide) (fun S114 h114 f114 => ?_)
    refine E_aload_n dX10_argueOn_115 rfl ?_
    refine E_ic (v := 0) dX10_argueOn_116 (by decide) ?_
    refine P_put (p := p) (f := 2) h114 hw ((mN_upd (by omega)).trans hmm) hm9 hp (by decide) fX10_83 dX10_argueOn_117 (fun S117 h117 f117 => ?_)
    refine E_aload_n dX10_argueOn_120 rfl ?_
    refine E_ic (v := 0) dX10_argueOn_121 (by decide) ?_
    refine P_put (p := o) (f := 2) h117 hw ((mN_upd (by omega)).trans ((mN_upd (by omega)).trans hmm)) hm9 ho (by decide) fX10_83 dX10_argueOn_122 (fun S122 h122 f122 => ?_)
    refine E_aload_n dX10_argueOn_125 rfl ?_
    refine E_V0v vX10_137_10 dX10_argueOn_126 (Nat.le_of_ble_eq_true rfl) (by have := (hw).lt; omega) ((sh_W hw) _) (s_X10_goAshore hw h122 ((mN_upd (by omega)).trans ((mN_upd (by omega)).trans ((mN_upd (by omega)).trans hmm))) hm9 p o hp ho (by rw [pk_un (by omega), pk_un (by omega), pk_un (by omega)]; exact h7) (by rw [pk_un (by omega), pk_un (by omega), pk_un (by omega)]; exact h8) (fun S126 h126 f126 => ?_))
    refine E_goto dX10_argueOn_129 ?_
    refine E_vret dX10_argueOn_198 rfl rfl ?_
    refine hq _ (WRep_eq h126 ?_) (((((WF.rf).tr f114).tr f117).tr f122).tr f126)
    rw [quE, if_pos (show v 4 ≤ tmF v p + tmF v o from i_nlt c102), show 15 + 9 * p + 2 = 17 + 9 * p by omega, show 15 + 9 * o + 2 = 17 + 9 * o by omega, ← to_sh]
    congr 1
    rw [pk_un (by omega), pk_un (by omega), pk_un (by omega)]
theorem l_X10_argueOn79 {Q : HP → Prop} {w : Nat} (hw : isW w) (hR : WRep S w v) {m : Nat} (hmm : mN v = m) (hm9 : m ≤ 9) (p o j : Nat) (hpo : p ≠ o) (hp : p < m) (ho : o < m) (hj6 : j < 6) (hc : IC v m) (h7 : v 7 = nI p) (h8 : v 8 = nI o) (h9 : v 9 = nI j) {a : Nat} (ha : a < 7) (eap : apV v p o j = nI a) (hq : ∀ S', WRep S' w (quE (q2V (q2V v p o j) o p j) p o j) → WF w S S' → Q (lay Θ S')) : E Θ (d + 4) 0 0 yX10_argueOn cX10_argueOn 4 none 0 0 183 (lay Θ S) 79 [(3, .int (nI a)), (2, .ref (tb Θ + (w + 4 + 2 * o))), (1, .ref (tb Θ + (w + 4 + 2 * p))), (0, .ref (tb Θ + w))] [] (Qv Q) := by
  have eop : apV v o p j = nI a := by rw [apV_sym (hc.1.2.2 p hp) (hc.1.2.2 o ho) hj6]; exact eap
  refine E_aload_n dX10_argueOn_79 rfl ?_
  refine E_iload_n dX10_argueOn_80 rfl ?_
  refine E_V1v vX10_133_4 dX10_argueOn_81 (Nat.le_of_ble_eq_true rfl) (by have := (hw.p (i := p) (by omega)).lt; omega) ((sh_P (hw.p (i := p) (by omega))) _) (s_X4_heatUp hw hR hmm hm9 p a hp ha rfl (hc.1.2.2 p hp) (fun S81 h81 f81 => ?_))
  refine E_aload_n dX10_argueOn_84 rfl ?_
  refine E_iload_n dX10_argueOn_85 rfl ?_
  refine E_V1v vX10_133_4 dX10_argueOn_86 (Nat.le_of_ble_eq_true rfl) (by have := (hw.p (i := o) (by omega)).lt; omega) ((sh_P (hw.p (i := o) (by omega))) _) (s_X4_heatUp hw (WRep_eq h81 (q2_eq eap)) (mN_q2.trans hmm) hm9 o a ho ha rfl ((hc.q2 (o := o) (j := j) hp).1.2.2 o ho) (fun S86 h86 f86 => ?_))
  exact E.loc (by exact ⟨rfl, rfl, rfl, rfl, trivial⟩) (l_X10_argueOn89 hw (WRep_eq h86 (q2_eq ((ap_q2 hj6).trans eop))) (mN_q2.trans (mN_q2.trans hmm)) hm9 p o j hpo hp ho hj6 ((hc.q2 hp).q2 ho) (by rw [q2V, q2V, pk_un (by omega), pk_un (by omega)]; exact h7) (by rw [q2V, q2V, pk_un (by omega), pk_un (by omega)]; exact h8) (by rw [q2V, q2V, pk_un (by omega), pk_un (by omega)]; exact h9) (fun S9 a9 b9 => hq S9 a9 ((((WF.rf).tr f81).tr f86).tr b9)))
theorem s_X10_argueOn {Q : HP → Prop} {w : Nat} (hw : isW w) (hR : WRep S w v) {m : Nat} (hmm : mN v = m) (hm9 : m ≤ 9) (hT : TRep S v) {tn : Nat} (htn : v 14 = nI tn) (htn14 : tn ≤ 14) (hok : ∀ i, i < tn → txOk v i) (p o j : Nat) (hpo : p ≠ o) (hp : p < m) (ho : o < m) (hj6 : j < 6) (hc : IC v m) (h7 : v 7 = nI p) (h8 : v 8 = nI o) (h9 : v 9 = nI j) (hq : ∀ S', WRep S' w (quV v p o j) → WF w S S' → Q (lay Θ S')) : C Θ (d + 4) 0 0 yX10_argueOn cX10_argueOn 4 none [.ref (tb Θ + w)] 183 (lay Θ S) (Qv Q) := by
  refine C_of rfl rfl (Nat.le_of_ble_eq_true rfl) ?_
  have htN : tN v = tn := by rw [tN, htn, nI_clamp (by omega)]
  obtain ⟨a, ha, eap⟩ := ap_ix (hc.1.2.2 p hp) (hc.1.2.2 o ho) hj6
  have eop : apV v o p j = nI a := by rw [apV_sym (hc.1.2.2 p hp) (hc.1.2.2 o ho) hj6]; exact eap
  refine E_aload_n dX10_argueOn_0 rfl ?_
  refine L_get fX10_11 dX10_argueOn_1 (by have := (hw).lt; omega) (sh_W hw) rfl ?_
  refine E_aload_n dX10_argueOn_4 rfl ?_
  refine W_get (j := 4) (i := 7) hR hw (by decide) fX10_53 dX10_argueOn_5 ?_
  refine L_aald (j := p) dX10_argueOn_8 (by have := (hw).lt; omega) (sh_Wc hw) rfl h7 (by omega) (by decide) (if_pos (by omega)) ?_
  refine E_astore_n dX10_argueOn_9 (by decide) ?_
  refine E_aload_n dX10_argueOn_10 rfl ?_
  refine L_get fX10_11 dX10_argueOn_11 (by have := (hw).lt; omega) (sh_W hw) rfl ?_
  refine E_aload_n dX10_argueOn_14 rfl ?_
  refine W_get (j := 5) (i := 8) hR hw (by decide) fX10_56 dX10_argueOn_15 ?_
  refine L_aald (j := o) dX10_argueOn_18 (by have := (hw).lt; omega) (sh_Wc hw) rfl h8 (by omega) (by decide) (if_pos (by omega)) ?_
  refine E_astore_n dX10_argueOn_19 (by decide) ?_
  refine E_aload_n dX10_argueOn_20 rfl ?_
  refine E_aload_n dX10_argueOn_21 rfl ?_
  refine E_aload_n dX10_argueOn_22 rfl ?_
  refine W_get (j := 6) (i := 9) hR hw (by decide) fX10_59 dX10_argueOn_23 ?_
  refine E_V2i vX10_126_4 dX10_argueOn_26 (Nat.le_of_ble_eq_true rfl) (by have := (hw.p (i := p) (by omega)).lt; omega) ((sh_P (hw.p (i := p) (by omega))) _) (s_X4_apartFrom hw hR hmm hm9 p o j hp ho h9 hj6 ?_)
  rw [eap]
  refine E_istore_n dX10_argueOn_29 (by decide) ?_
  refine E_iload_n dX10_argueOn_30 rfl ?_
  refine E_if_ne dX10_argueOn_31 (fun c31 => ?_) (fun c31 => ?_)
  · refine E_aload_n dX10_argueOn_52 rfl ?_
    refine E_dup dX10_argueOn_53 rfl ?_
    refine W_get (j := 3) (i := 6) hR hw (by decide) fX10_50 dX10_argueOn_54 ?_
    refine E_aload_n dX10_argueOn_57 rfl ?_
    refine E_aload_n dX10_argueOn_58 rfl ?_
    refine E_iload_n dX10_argueOn_59 rfl ?_
    refine E_V2i vX10_130_10 dX10_argueOn_60 (Nat.le_of_ble_eq_true rfl) (by have := (hw).lt; omega) ((sh_W hw) _) (s_X10_speechOf hw hR hmm hm9 hT htn htn14 hok p a hp ha (hc.1.2.2 p hp) (fun S60 h60 f60 => ?_))
    refine E_aload_n dX10_argueOn_63 rfl ?_
    refine E_aload_n dX10_argueOn_64 rfl ?_
    refine E_iload_n dX10_argueOn_65 rfl ?_
    refine E_V2i vX10_130_10 dX10_argueOn_66 (Nat.le_of_ble_eq_true rfl) (by have := (hw).lt; omega) ((sh_W hw) _) (s_X10_speechOf hw h60 hmm hm9 (hT.keep hw f60 eqHi.rf rfl (by rw [htN]; exact htn14)) htn htn14 hok o a ho ha (hc.1.2.2 o ho) (fun S66 h66 f66 => ?_))
    refine E_iadd dX10_argueOn_69 ?_
    refine E_aload_n dX10_argueOn_70 rfl ?_
    refine W_get (j := 7) (i := 3) h66 hw (by decide) fX10_17 dX10_argueOn_71 ?_
    refine E_isub dX10_argueOn_74 ?_
    refine E_iadd dX10_argueOn_75 ?_
    refine W_put (j := 3) (i := 6) h66 hw (by decide) fX10_50 dX10_argueOn_76 (fun S76 h76 f76 => ?_)
    exact E.loc (by exact ⟨rfl, rfl, rfl, rfl, trivial⟩) (l_X10_argueOn79 hw (WRep_eq h76 (show _ = q1V v p o j by rw [q1V, if_neg (by rw [eap]; exact c31), spV, spV, eop, eap])) (mN_q1.trans hmm) hm9 p o j hpo hp ho hj6 hc.q1 (by rw [q1V, pk_un (by omega)]; exact h7) (by rw [q1V, pk_un (by omega)]; exact h8) (by rw [q1V, pk_un (by omega)]; exact h9) ha (ap_q1.trans eap) (fun S9 a9 b9 => hq S9 a9 (((((WF.rf).tr f60).tr f66).tr f76).tr b9)))
  · refine E_aload_n dX10_argueOn_34 rfl ?_
    refine E_dup dX10_argueOn_35 rfl ?_
    refine W_get (j := 3) (i := 6) hR hw (by decide) fX10_50 dX10_argueOn_36 ?_
    refine E_ic (v := 1) dX10_argueOn_39 (by decide) ?_
    refine E_aload_n dX10_argueOn_40 rfl ?_
    refine W_get (j := 7) (i := 3) hR hw (by decide) fX10_17 dX10_argueOn_41 ?_
    refine E_iadd dX10_argueOn_44 ?_
    refine E_isub dX10_argueOn_45 ?_
    refine W_put (j := 3) (i := 6) hR hw (by decide) fX10_50 dX10_argueOn_46 (fun S46 h46 f46 => ?_)
    refine E_goto dX10_argueOn_49 ?_
    exact E.loc (by exact ⟨rfl, rfl, rfl, rfl, trivial⟩) (l_X10_argueOn79 hw (WRep_eq h46 (show _ = q1V v p o j by rw [q1V, if_pos (by rw [eap]; exact c31), way_eq])) (mN_q1.trans hmm) hm9 p o j hpo hp ho hj6 hc.q1 (by rw [q1V, pk_un (by omega)]; exact h7) (by rw [q1V, pk_un (by omega)]; exact h8) (by rw [q1V, pk_un (by omega)]; exact h9) ha (ap_q1.trans eap) (fun S9 a9 b9 => hq S9 a9 (((WF.rf).tr f46).tr b9)))
end Ar
