/-! the reference: quarrels and minutes -/
theorem way_pos {x : Int32} {w : Nat} (h : x = nI w) (c : ¬ x = 0) : 0 < w := by
  rcases Nat.eq_zero_or_pos w with h0 | h0
  · subst h0
    exact absurd h c
  · exact h0
section Ref5
variable {Θ : Th} {d : Nat} {S : SS} {v : WV}
theorem l_X12_quarrel117 {Q : HP → Prop} (hv : S 160 = v) (p o j : Nat) (hp9 : p < 9) (ho9 : o < 9) (hj6 : j < 6) (h7 : v 7 = nI p) (h8 : v 8 = nI o) (hq : ∀ S', S' 160 = quE v p o j → MF S S' → Q (lay Θ S')) : E Θ (d + 3) 0 0 yX12_quarrel cX12_quarrel 6 none 0 0 183 (lay Θ S) 117 [(3, .int (nI j)), (2, .int (nI o)), (1, .int (nI p)), (0, .ref (tb Θ + 159))] [] (Qv Q) := by
  refine E_aload_n dX12_quarrel_117 rfl ?_
  refine E_iload_n dX12_quarrel_118 rfl ?_
  refine E_ic (v := 2) dX12_quarrel_119 (by decide) ?_
  refine E_V2i vX12_85_12 dX12_quarrel_120 (Nat.le_of_ble_eq_true rfl) (by decide) (sh_159 _) (s_X12_of hv p (2) (17 + 9 * p) rfl rfl (by omega) (by omega) ?_)
  refine E_aload_n dX12_quarrel_123 rfl ?_
  refine E_iload_n dX12_quarrel_124 rfl ?_
  refine E_ic (v := 2) dX12_quarrel_125 (by decide) ?_
  refine E_V2i vX12_85_12 dX12_quarrel_126 (Nat.le_of_ble_eq_true rfl) (by decide) (sh_159 _) (s_X12_of hv o (2) (17 + 9 * o) rfl rfl (by omega) (by omega) ?_)
  refine E_iadd dX12_quarrel_129 ?_
  refine E_aload_n dX12_quarrel_130 rfl ?_
  refine L_get fX12_9 dX12_quarrel_131 (by decide) sh_159 rfl ?_
  refine E_ic (v := 4) dX12_quarrel_134 (by decide) ?_
  refine N_iald (j := 4) dX12_quarrel_135 rfl (by decide) hv ?_
  refine E_icmp_lt dX12_quarrel_136 (fun c136 => ?_) (fun c136 => ?_)
  · refine E_aload_n dX12_quarrel_177 rfl ?_
    refine L_get fX12_9 dX12_quarrel_178 (by decide) sh_159 rfl ?_
    refine E_bipush (v := 6) dX12_quarrel_181 (by decide) ?_
    refine N_iald (j := 6) dX12_quarrel_183 rfl (by decide) hv ?_
    refine E_bipush (v := 30) dX12_quarrel_184 (by decide) ?_
    refine E_icmp_lt dX12_quarrel_186 (fun c186 => ?_) (fun c186 => ?_)
    · refine E_aload_n dX12_quarrel_215 rfl ?_
      refine L_get fX12_9 dX12_quarrel_216 (by decide) sh_159 rfl ?_
      refine E_bipush (v := 6) dX12_quarrel_219 (by decide) ?_
      refine N_iald (j := 6) dX12_quarrel_221 rfl (by decide) hv ?_
      refine E_if_gt dX12_quarrel_222 (fun c222 => ?_) (fun c222 => ?_)
      · refine E_aload_n dX12_quarrel_249 rfl ?_
        refine E_iload_n dX12_quarrel_250 rfl ?_
        refine E_iload_n dX12_quarrel_251 rfl ?_
        refine E_iload_n dX12_quarrel_252 rfl ?_
        refine E_V3i vX12_146_12 dX12_quarrel_253 (Nat.le_of_ble_eq_true rfl) (by decide) (sh_159 _) (s_X12_shifts hv p o j rfl rfl rfl (by omega) (by omega) hj6 ?_)
        refine E_istore dX12_quarrel_256 (by decide) ?_
        refine E_aload_n dX12_quarrel_258 rfl ?_
        refine E_iload_n dX12_quarrel_259 rfl ?_
        refine E_ic (v := 3) dX12_quarrel_260 (by decide) ?_
        refine E_iload_n dX12_quarrel_261 rfl ?_
        refine E_iadd dX12_quarrel_262 ?_
        refine E_aload_n dX12_quarrel_263 rfl ?_
        refine E_iload_n dX12_quarrel_264 rfl ?_
        refine E_iload_n dX12_quarrel_265 rfl ?_
        refine E_iload_n dX12_quarrel_266 rfl ?_
        refine E_V3i vX12_146_12 dX12_quarrel_267 (Nat.le_of_ble_eq_true rfl) (by decide) (sh_159 _) (s_X12_shifts hv o p j rfl rfl rfl (by omega) (by omega) hj6 ?_)
        refine E_V3v vX12_103_12 dX12_quarrel_270 (Nat.le_of_ble_eq_true rfl) (by decide) (sh_159 _) (s_X12_put hv o (3 + j) (18 + 9 * o + j) rfl (vwI j) (by omega) (by omega) (fun S270 h270 f270 => ?_))
        refine E_aload_n dX12_quarrel_273 rfl ?_
        refine E_iload_n dX12_quarrel_274 rfl ?_
        refine E_ic (v := 3) dX12_quarrel_275 (by decide) ?_
        refine E_iload_n dX12_quarrel_276 rfl ?_
        refine E_iadd dX12_quarrel_277 ?_
        refine E_iload dX12_quarrel_278 rfl ?_
        refine E_V3v vX12_103_12 dX12_quarrel_280 (Nat.le_of_ble_eq_true rfl) (by decide) (sh_159 _) (s_X12_put h270 p (3 + j) (18 + 9 * p + j) rfl (vwI j) (by omega) (by omega) (fun S280 h280 f280 => ?_))
        refine E_aload_n dX12_quarrel_283 rfl ?_
        refine E_iload_n dX12_quarrel_284 rfl ?_
        refine E_iload_n dX12_quarrel_285 rfl ?_
        refine E_iload_n dX12_quarrel_286 rfl ?_
        refine E_V3i vX12_89_12 dX12_quarrel_287 (Nat.le_of_ble_eq_true rfl) (by decide) (sh_159 _) (s_X12_apart h280 p o j rfl rfl rfl (by omega) (by omega) hj6 ?_)
        refine E_if_ne dX12_quarrel_290 (fun c290 => ?_) (fun c290 => ?_)
        · refine E_vret dX12_quarrel_307 rfl rfl ?_
          exact hq _ (h280.trans (by rw [quE, if_neg (show ¬ v 4 ≤ tmF v p + tmF v o from i_le c136), if_neg (i_le c186), if_neg (i_le c222), if_neg (show ¬ apV (q4V v p o j) p o j = 0 from c290)]; rfl)) (((MF.rf).tr f270).tr f280)
        · refine E_aload_n dX12_quarrel_293 rfl ?_
          refine L_get fX12_9 dX12_quarrel_294 (by decide) sh_159 rfl ?_
          refine E_bipush (v := 9) dX12_quarrel_297 (by decide) ?_
          refine E_aload_n dX12_quarrel_299 rfl ?_
          refine E_V0i vX12_132_12 dX12_quarrel_300 (Nat.le_of_ble_eq_true rfl) (by decide) (sh_159 _) (s_X12_draw h280 (fun S300 h300 f300 => ?_))
          refine E_bipush (v := 6) dX12_quarrel_303 (by decide) ?_
          refine E_irem dX12_quarrel_305 (by decide) ?_
          refine N_iast (j := 9) dX12_quarrel_306 rfl (by decide) h300 (fun S306 h306 f306 => ?_)
          refine E_vret dX12_quarrel_307 rfl rfl ?_
          exact hq _ (h306.trans (by rw [quE, if_neg (show ¬ v 4 ≤ tmF v p + tmF v o from i_le c136), if_neg (i_le c186), if_neg (i_le c222), if_pos (show apV (q4V v p o j) p o j = 0 from c290)]; rfl)) (((((MF.rf).tr f270).tr f280).tr f300).tr f306)
      · refine E_aload_n dX12_quarrel_225 rfl ?_
        refine L_get fX12_9 dX12_quarrel_226 (by decide) sh_159 rfl ?_
        refine E_bipush (v := 11) dX12_quarrel_229 (by decide) ?_
        refine E_dup2 dX12_quarrel_231 rfl rfl ?_
        refine N_iald (j := 11) dX12_quarrel_232 rfl (by decide) hv ?_
        refine E_ic (v := 1) dX12_quarrel_233 (by decide) ?_
        refine E_iadd dX12_quarrel_234 ?_
        refine N_iast (j := 11) dX12_quarrel_235 rfl (by decide) hv (fun S235 h235 f235 => ?_)
        refine E_aload_n dX12_quarrel_236 rfl ?_
        refine E_aload_n dX12_quarrel_237 rfl ?_
        refine L_get fX12_9 dX12_quarrel_238 (by decide) sh_159 rfl ?_
        refine E_ic (v := 5) dX12_quarrel_241 (by decide) ?_
        refine N_iald (j := 5) dX12_quarrel_242 rfl (by decide) h235 ?_
        refine E_V1v vX12_156_12 dX12_quarrel_243 (Nat.le_of_ble_eq_true rfl) (by decide) (sh_159 _) (s_X12_comesTo h235 p o (by rw [pk_un (by omega)]; exact h7) (by rw [pk_un (by omega)]; exact h8) (by omega) (by omega) (fun S243 h243 f243 => ?_))
        refine E_goto dX12_quarrel_246 ?_
        refine E_vret dX12_quarrel_307 rfl rfl ?_
        exact hq _ (h243.trans (by rw [quE, if_neg (show ¬ v 4 ≤ tmF v p + tmF v o from i_le c136), if_neg (i_le c186), if_pos (i_nlt c222)]; rw [pk_un (by omega)])) (((MF.rf).tr f235).tr f243)
    · refine E_aload_n dX12_quarrel_189 rfl ?_
      refine L_get fX12_9 dX12_quarrel_190 (by decide) sh_159 rfl ?_
      refine E_bipush (v := 10) dX12_quarrel_193 (by decide) ?_
      refine E_dup2 dX12_quarrel_195 rfl rfl ?_
      refine N_iald (j := 10) dX12_quarrel_196 rfl (by decide) hv ?_
      refine E_ic (v := 2) dX12_quarrel_197 (by decide) ?_
      refine E_iadd dX12_quarrel_198 ?_
      refine N_iast (j := 10) dX12_quarrel_199 rfl (by decide) hv (fun S199 h199 f199 => ?_)
      refine E_aload_n dX12_quarrel_200 rfl ?_
      refine E_ic (v := 1) dX12_quarrel_201 (by decide) ?_
      refine E_aload_n dX12_quarrel_202 rfl ?_
      refine L_get fX12_9 dX12_quarrel_203 (by decide) sh_159 rfl ?_
      refine E_ic (v := 5) dX12_quarrel_206 (by decide) ?_
      refine N_iald (j := 5) dX12_quarrel_207 rfl (by decide) h199 ?_
      refine E_isub dX12_quarrel_208 ?_
      refine E_V1v vX12_156_12 dX12_quarrel_209 (Nat.le_of_ble_eq_true rfl) (by decide) (sh_159 _) (s_X12_comesTo h199 p o (by rw [pk_un (by omega)]; exact h7) (by rw [pk_un (by omega)]; exact h8) (by omega) (by omega) (fun S209 h209 f209 => ?_))
      refine E_goto dX12_quarrel_212 ?_
      refine E_vret dX12_quarrel_307 rfl rfl ?_
      exact hq _ (h209.trans (by rw [quE, if_neg (show ¬ v 4 ≤ tmF v p + tmF v o from i_le c136), if_pos (i_nlt c186)]; rw [pk_un (by omega)])) (((MF.rf).tr f199).tr f209)
  · refine E_aload_n dX12_quarrel_139 rfl ?_
    refine L_get fX12_9 dX12_quarrel_140 (by decide) sh_159 rfl ?_
    refine E_bipush (v := 12) dX12_quarrel_143 (by decide) ?_
    refine E_dup2 dX12_quarrel_145 rfl rfl ?_
    refine N_iald (j := 12) dX12_quarrel_146 rfl (by decide) hv ?_
    refine E_ic (v := 1) dX12_quarrel_147 (by decide) ?_
    refine E_iadd dX12_quarrel_148 ?_
    refine N_iast (j := 12) dX12_quarrel_149 rfl (by decide) hv (fun S149 h149 f149 => ?_)
    refine E_aload_n dX12_quarrel_150 rfl ?_
    refine E_iload_n dX12_quarrel_151 rfl ?_
    refine E_ic (v := 2) dX12_quarrel_152 (by decide) ?_
    refine E_ic (v := 0) dX12_quarrel_153 (by decide) ?_
    refine E_V3v vX12_103_12 dX12_quarrel_154 (Nat.le_of_ble_eq_true rfl) (by decide) (sh_159 _) (s_X12_put h149 p (2) (17 + 9 * p) rfl rfl (by omega) (by omega) (fun S154 h154 f154 => ?_))
    refine E_aload_n dX12_quarrel_157 rfl ?_
    refine E_iload_n dX12_quarrel_158 rfl ?_
    refine E_ic (v := 2) dX12_quarrel_159 (by decide) ?_
    refine E_ic (v := 0) dX12_quarrel_160 (by decide) ?_
    refine E_V3v vX12_103_12 dX12_quarrel_161 (Nat.le_of_ble_eq_true rfl) (by decide) (sh_159 _) (s_X12_put h154 o (2) (17 + 9 * o) rfl rfl (by omega) (by omega) (fun S161 h161 f161 => ?_))
    refine E_aload_n dX12_quarrel_164 rfl ?_
    refine E_aload_n dX12_quarrel_165 rfl ?_
    refine L_get fX12_9 dX12_quarrel_166 (by decide) sh_159 rfl ?_
    refine E_ic (v := 5) dX12_quarrel_169 (by decide) ?_
    refine N_iald (j := 5) dX12_quarrel_170 rfl (by decide) h161 ?_
    refine E_V1v vX12_156_12 dX12_quarrel_171 (Nat.le_of_ble_eq_true rfl) (by decide) (sh_159 _) (s_X12_comesTo h161 p o (by rw [pk_un (by omega), pk_un (by omega), pk_un (by omega)]; exact h7) (by rw [pk_un (by omega), pk_un (by omega), pk_un (by omega)]; exact h8) (by omega) (by omega) (fun S171 h171 f171 => ?_))
    refine E_goto dX12_quarrel_174 ?_
    refine E_vret dX12_quarrel_307 rfl rfl ?_
    exact hq _ (h171.trans (by rw [quE, if_pos (show v 4 ≤ tmF v p + tmF v o from i_nlt c136)]; congr 1; rw [pk_un (by omega), pk_un (by omega), pk_un (by omega)])) (((((MF.rf).tr f149).tr f154).tr f161).tr f171)
theorem l_X12_quarrel65 {Q : HP → Prop} (hv : S 160 = v) (p o j : Nat) (hp9 : p < 9) (ho9 : o < 9) (hj6 : j < 6) (h7 : v 7 = nI p) (h8 : v 8 = nI o) (hq : ∀ S', S' 160 = quE (q2V (q2V v p o j) o p j) p o j → MF S S' → Q (lay Θ S')) : E Θ (d + 3) 0 0 yX12_quarrel cX12_quarrel 6 none 0 0 183 (lay Θ S) 65 [(3, .int (nI j)), (2, .int (nI o)), (1, .int (nI p)), (0, .ref (tb Θ + 159))] [] (Qv Q) := by
  refine E_aload_n dX12_quarrel_65 rfl ?_
  refine E_iload_n dX12_quarrel_66 rfl ?_
  refine E_ic (v := 2) dX12_quarrel_67 (by decide) ?_
  refine E_aload_n dX12_quarrel_68 rfl ?_
  refine E_iload_n dX12_quarrel_69 rfl ?_
  refine E_ic (v := 2) dX12_quarrel_70 (by decide) ?_
  refine E_V2i vX12_85_12 dX12_quarrel_71 (Nat.le_of_ble_eq_true rfl) (by decide) (sh_159 _) (s_X12_of hv p (2) (17 + 9 * p) rfl rfl (by omega) (by omega) ?_)
  refine E_aload_n dX12_quarrel_74 rfl ?_
  refine E_iload_n dX12_quarrel_75 rfl ?_
  refine E_iload_n dX12_quarrel_76 rfl ?_
  refine E_iload_n dX12_quarrel_77 rfl ?_
  refine E_V3i vX12_143_12 dX12_quarrel_78 (Nat.le_of_ble_eq_true rfl) (by decide) (sh_159 _) (s_X12_heats hv p o j rfl rfl rfl (by omega) (by omega) hj6 ?_)
  refine E_iadd dX12_quarrel_81 ?_
  refine E_ic (v := 0) dX12_quarrel_82 (by decide) ?_
  refine E_bipush (v := 99) dX12_quarrel_83 (by decide) ?_
  refine E_S3i sX12_100 dX12_quarrel_85 (Nat.le_of_ble_eq_true rfl) (s_X12_within ?_)
  refine E_V3v vX12_103_12 dX12_quarrel_88 (Nat.le_of_ble_eq_true rfl) (by decide) (sh_159 _) (s_X12_put hv p (2) (17 + 9 * p) rfl rfl (by omega) (by omega) (fun S88 h88 f88 => ?_))
  refine E_aload_n dX12_quarrel_91 rfl ?_
  refine E_iload_n dX12_quarrel_92 rfl ?_
  refine E_ic (v := 2) dX12_quarrel_93 (by decide) ?_
  refine E_aload_n dX12_quarrel_94 rfl ?_
  refine E_iload_n dX12_quarrel_95 rfl ?_
  refine E_ic (v := 2) dX12_quarrel_96 (by decide) ?_
  refine E_V2i vX12_85_12 dX12_quarrel_97 (Nat.le_of_ble_eq_true rfl) (by decide) (sh_159 _) (s_X12_of h88 o (2) (17 + 9 * o) rfl rfl (by omega) (by omega) ?_)
  refine E_aload_n dX12_quarrel_100 rfl ?_
  refine E_iload_n dX12_quarrel_101 rfl ?_
  refine E_iload_n dX12_quarrel_102 rfl ?_
  refine E_iload_n dX12_quarrel_103 rfl ?_
  refine E_V3i vX12_143_12 dX12_quarrel_104 (Nat.le_of_ble_eq_true rfl) (by decide) (sh_159 _) (s_X12_heats h88 o p j rfl rfl rfl (by omega) (by omega) hj6 ?_)
  refine E_iadd dX12_quarrel_107 ?_
  refine E_ic (v := 0) dX12_quarrel_108 (by decide) ?_
  refine E_bipush (v := 99) dX12_quarrel_109 (by decide) ?_
  refine E_S3i sX12_100 dX12_quarrel_111 (Nat.le_of_ble_eq_true rfl) (s_X12_within ?_)
  refine E_V3v vX12_103_12 dX12_quarrel_114 (Nat.le_of_ble_eq_true rfl) (by decide) (sh_159 _) (s_X12_put h88 o (2) (17 + 9 * o) rfl rfl (by omega) (by omega) (fun S114 h114 f114 => ?_))
  exact E.loc (by exact ⟨rfl, rfl, rfl, rfl, trivial⟩) (l_X12_quarrel117 (v := q2V (q2V v p o j) o p j) h114 p o j hp9 ho9 hj6 (by rw [q2V, q2V, pk_un (by omega), pk_un (by omega)]; exact h7) (by rw [q2V, q2V, pk_un (by omega), pk_un (by omega)]; exact h8) (fun S9 a9 b9 => hq S9 a9 ((((MF.rf).tr f88).tr f114).tr b9)))
theorem s_X12_quarrel {Q : HP → Prop} (hv : S 160 = v) {t : Nat} (ht : v 14 = nI t) (ht14 : t ≤ 14) (hok : ∀ i, i < t → txOk v i) (p o j : Nat) (hp9 : p < 9) (ho9 : o < 9) (hj6 : j < 6) (h7 : v 7 = nI p) (h8 : v 8 = nI o) (h9 : v 9 = nI j) (hq : ∀ S', S' 160 = quV v p o j → MF S S' → Q (lay Θ S')) : C Θ (d + 3) 0 0 yX12_quarrel cX12_quarrel 6 none [.ref (tb Θ + 159), .int (nI p), .int (nI o)] 183 (lay Θ S) (Qv Q) := by
  refine C_of rfl rfl (Nat.le_of_ble_eq_true rfl) ?_
  refine E_aload_n dX12_quarrel_0 rfl ?_
  refine L_get fX12_9 dX12_quarrel_1 (by decide) sh_159 rfl ?_
  refine E_bipush (v := 9) dX12_quarrel_4 (by decide) ?_
  refine N_iald (j := 9) dX12_quarrel_6 rfl (by decide) hv ?_
  rw [h9]
  refine E_istore_n dX12_quarrel_7 (by decide) ?_
  refine E_aload_n dX12_quarrel_8 rfl ?_
  refine E_iload_n dX12_quarrel_9 rfl ?_
  refine E_iload_n dX12_quarrel_10 rfl ?_
  refine E_iload_n dX12_quarrel_11 rfl ?_
  refine E_V3i vX12_140_12 dX12_quarrel_12 (Nat.le_of_ble_eq_true rfl) (by decide) (sh_159 _) (s_X12_speaks hv ht ht14 hok p o j rfl rfl rfl (by omega) (by omega) hj6 (fun S12 h12 f12 => ?_))
  refine E_aload_n dX12_quarrel_15 rfl ?_
  refine E_iload_n dX12_quarrel_16 rfl ?_
  refine E_iload_n dX12_quarrel_17 rfl ?_
  refine E_iload_n dX12_quarrel_18 rfl ?_
  refine E_V3i vX12_140_12 dX12_quarrel_19 (Nat.le_of_ble_eq_true rfl) (by decide) (sh_159 _) (s_X12_speaks h12 ht ht14 hok o p j rfl rfl rfl (by omega) (by omega) hj6 (fun S19 h19 f19 => ?_))
  refine E_iadd dX12_quarrel_22 ?_
  refine E_aload_n dX12_quarrel_23 rfl ?_
  refine L_get fX12_9 dX12_quarrel_24 (by decide) sh_159 rfl ?_
  refine E_ic (v := 3) dX12_quarrel_27 (by decide) ?_
  refine N_iald (j := 3) dX12_quarrel_28 rfl (by decide) h19 ?_
  refine E_isub dX12_quarrel_29 ?_
  refine E_istore dX12_quarrel_30 (by decide) ?_
  refine E_aload_n dX12_quarrel_32 rfl ?_
  refine L_get fX12_9 dX12_quarrel_33 (by decide) sh_159 rfl ?_
  refine E_bipush (v := 6) dX12_quarrel_36 (by decide) ?_
  refine E_dup2 dX12_quarrel_38 rfl rfl ?_
  refine N_iald (j := 6) dX12_quarrel_39 rfl (by decide) h19 ?_
  refine E_aload_n dX12_quarrel_40 rfl ?_
  refine E_iload_n dX12_quarrel_41 rfl ?_
  refine E_iload_n dX12_quarrel_42 rfl ?_
  refine E_iload_n dX12_quarrel_43 rfl ?_
  refine E_V3i vX12_89_12 dX12_quarrel_44 (Nat.le_of_ble_eq_true rfl) (by decide) (sh_159 _) (s_X12_apart h19 p o j rfl rfl rfl (by omega) (by omega) hj6 ?_)
  refine E_if_ne dX12_quarrel_47 (fun c47 => ?_) (fun c47 => ?_)
  · refine E_iload dX12_quarrel_61 rfl ?_
    refine E_iadd dX12_quarrel_63 ?_
    refine N_iast (j := 6) dX12_quarrel_64 rfl (by decide) h19 (fun S64 h64 f64 => ?_)
    exact E.loc (by exact ⟨rfl, rfl, rfl, rfl, trivial⟩) (l_X12_quarrel65 (v := q1V v p o j) (h64.trans (by rw [q1V, if_neg c47])) p o j hp9 ho9 hj6 (by rw [q1V, pk_un (by omega)]; exact h7) (by rw [q1V, pk_un (by omega)]; exact h8) (fun S9 a9 b9 => hq S9 a9 (((((MF.rf).tr f12).tr f19).tr f64).tr b9)))
  · refine E_ic (v := (-1)) dX12_quarrel_50 (by decide) ?_
    refine E_aload_n dX12_quarrel_51 rfl ?_
    refine L_get fX12_9 dX12_quarrel_52 (by decide) sh_159 rfl ?_
    refine E_ic (v := 3) dX12_quarrel_55 (by decide) ?_
    refine N_iald (j := 3) dX12_quarrel_56 rfl (by decide) h19 ?_
    refine E_isub dX12_quarrel_57 ?_
    refine E_goto dX12_quarrel_58 ?_
    refine E_iadd dX12_quarrel_63 ?_
    refine N_iast (j := 6) dX12_quarrel_64 rfl (by decide) h19 (fun S64 h64 f64 => ?_)
    exact E.loc (by exact ⟨rfl, rfl, rfl, rfl, trivial⟩) (l_X12_quarrel65 (v := q1V v p o j) (h64.trans (by rw [q1V, if_pos c47])) p o j hp9 ho9 hj6 (by rw [q1V, pk_un (by omega)]; exact h7) (by rw [q1V, pk_un (by omega)]; exact h8) (fun S9 a9 b9 => hq S9 a9 (((((MF.rf).tr f12).tr f19).tr f64).tr b9)))
theorem s_X12_minute {Q : HP → Prop} (hv : S 160 = v) (iv : IV v) (hq : ∀ S', S' 160 = miV v → MF S S' → Q (lay Θ S')) : C Θ (d + 4) 0 0 yX12_minute cX12_minute 1 none [.ref (tb Θ + 159)] 183 (lay Θ S) (Qv Q) := by
  refine C_of rfl rfl (Nat.le_of_ble_eq_true rfl) ?_
  obtain ⟨⟨m, hm9, hm, hpa⟩, -, ⟨w, hw30, hw, hw6⟩, -, -, ⟨t, ht14, ht, hok⟩⟩ := iv
  refine E_aload_n dX12_minute_0 rfl ?_
  refine L_get fX12_9 dX12_minute_1 (by decide) sh_159 rfl ?_
  refine E_bipush (v := 6) dX12_minute_4 (by decide) ?_
  refine N_iald (j := 6) dX12_minute_6 rfl (by decide) hv ?_
  refine E_if_ne dX12_minute_7 (fun c7 => ?_) (fun c7 => ?_)
  · obtain ⟨p, o, j, hpo, hom, hj6, h7, h8, h9⟩ := hw6 (way_pos hw c7)
    have hmm : mN v = m := by rw [mN, hm, nI_clamp (by omega)]
    refine E_aload_n dX12_minute_17 rfl ?_
    refine E_aload_n dX12_minute_18 rfl ?_
    refine L_get fX12_9 dX12_minute_19 (by decide) sh_159 rfl ?_
    refine E_bipush (v := 7) dX12_minute_22 (by decide) ?_
    refine N_iald (j := 7) dX12_minute_24 rfl (by decide) hv ?_
    rw [h7]
    refine E_aload_n dX12_minute_25 rfl ?_
    refine L_get fX12_9 dX12_minute_26 (by decide) sh_159 rfl ?_
    refine E_bipush (v := 8) dX12_minute_29 (by decide) ?_
    refine N_iald (j := 8) dX12_minute_31 rfl (by decide) hv ?_
    rw [h8]
    refine E_V2v vX12_162_12 dX12_minute_32 (Nat.le_of_ble_eq_true rfl) (by decide) (sh_159 _) (s_X12_quarrel hv ht ht14 hok p o j (by omega) (by omega) hj6 h7 h8 h9 (fun S32 h32 f32 => ?_))
    refine E_aload_n dX12_minute_35 rfl ?_
    refine L_get fX12_9 dX12_minute_36 (by decide) sh_159 rfl ?_
    refine E_ic (v := 2) dX12_minute_39 (by decide) ?_
    refine E_dup2 dX12_minute_40 rfl rfl ?_
    refine N_iald (j := 2) dX12_minute_41 rfl (by decide) h32 ?_
    refine E_ic (v := 1) dX12_minute_42 (by decide) ?_
    refine E_iadd dX12_minute_43 ?_
    refine N_iast (j := 2) dX12_minute_44 rfl (by decide) h32 (fun S44 h44 f44 => ?_)
    refine E_vret dX12_minute_45 rfl rfl ?_
    exact hq _ (h44.trans (by simp only [miV]; rw [if_neg c7, h7, h8, h9, nI_clamp (by omega), nI_clamp (by omega), nI_clamp (by omega)])) (((MF.rf).tr f32).tr f44)
  · refine E_aload_n dX12_minute_10 rfl ?_
    refine E_V0v vX12_160_12 dX12_minute_11 (Nat.le_of_ble_eq_true rfl) (by decide) (sh_159 _) (s_X12_waits hv hm hm9 (fun S11 h11 f11 => ?_))
    refine E_goto dX12_minute_14 ?_
    refine E_aload_n dX12_minute_35 rfl ?_
    refine L_get fX12_9 dX12_minute_36 (by decide) sh_159 rfl ?_
    refine E_ic (v := 2) dX12_minute_39 (by decide) ?_
    refine E_dup2 dX12_minute_40 rfl rfl ?_
    refine N_iald (j := 2) dX12_minute_41 rfl (by decide) h11 ?_
    refine E_ic (v := 1) dX12_minute_42 (by decide) ?_
    refine E_iadd dX12_minute_43 ?_
    refine N_iast (j := 2) dX12_minute_44 rfl (by decide) h11 (fun S44 h44 f44 => ?_)
    refine E_vret dX12_minute_45 rfl rfl ?_
    exact hq _ (h44.trans (by simp only [miV]; rw [if_pos c7])) (((MF.rf).tr f11).tr f44)
end Ref5
