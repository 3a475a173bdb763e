/-! the class: a text worked out -/
theorem neg_cases {c : Int32} (h0 : ¬ 0 ≤ c) (h9 : -9 ≤ c) : c = -1 ∨ c = -2 ∨ c = -3 ∨ c = -4 ∨ c = -5 ∨ c = -6 ∨ c = -7 ∨ c = -8 ∨ c = -9 := by
  have a : c.toInt < 0 := by
    have := Int32.lt_iff_toInt_lt.mp (i_nle h0)
    simpa using this
  have b : -9 ≤ c.toInt := by
    have := Int32.le_iff_toInt_le.mp h9
    rwa [show (-9 : Int32).toInt = -9 by decide] at this
  have k : ∀ (z : Int32) (n : Int), z.toInt = n → c.toInt = n → c = z := fun z n hz hc => Int32.toInt_inj.mp (hc.trans hz.symm)
  rcases (show c.toInt = -1 ∨ c.toInt = -2 ∨ c.toInt = -3 ∨ c.toInt = -4 ∨ c.toInt = -5 ∨ c.toInt = -6 ∨ c.toInt = -7 ∨ c.toInt = -8 ∨ c.toInt = -9 by omega) with h | h | h | h | h | h | h | h | h
  · exact Or.inl (k _ _ (by decide) h)
  · exact Or.inr (Or.inl (k _ _ (by decide) h))
  · exact Or.inr (Or.inr (Or.inl (k _ _ (by decide) h)))
  · exact Or.inr (Or.inr (Or.inr (Or.inl (k _ _ (by decide) h))))
  · exact Or.inr (Or.inr (Or.inr (Or.inr (Or.inl (k _ _ (by decide) h)))))
  · exact Or.inr (Or.inr (Or.inr (Or.inr (Or.inr (Or.inl (k _ _ (by decide) h))))))
  · exact Or.inr (Or.inr (Or.inr (Or.inr (Or.inr (Or.inr (Or.inl (k _ _ (by decide) h)))))))
  · exact Or.inr (Or.inr (Or.inr (Or.inr (Or.inr (Or.inr (Or.inr (Or.inl (k _ _ (by decide) h))))))))
  · exact Or.inr (Or.inr (Or.inr (Or.inr (Or.inr (Or.inr (Or.inr (Or.inr (k _ _ (by decide) h))))))))
theorem isT_mk {t : Nat} (h : t < 15) : isT (86 + 3 * t) := ⟨t, h, rfl⟩
theorem tr_bin {c : Int32} (h0 : ¬ 0 ≤ c) (h9 : -9 ≤ c) : 10000 ≤ trC c ∧ ¬ trC c = 10033 := by
  rcases neg_cases h0 h9 with rfl | rfl | rfl | rfl | rfl | rfl | rfl | rfl | rfl <;> decide
theorem tr_num {c : Int32} (h0 : 0 ≤ c) (h1 : c < 10000) : trC c = c := by rw [trC, if_pos h0, if_pos h1]
theorem tr_nam {c : Int32} {i : Nat} (h0 : 0 ≤ c) (h1 : ¬ c < 10000) (hi : i < 3) (e : c - 10000 = nI i) : (i = 0 ∧ trC c = -1) ∨ (i = 1 ∧ trC c = -2) ∨ (i = 2 ∧ trC c = -3) := by
  have hc : c = nI i + 10000 := by rw [← e, Int32.sub_add_cancel]
  rcases (show i = 0 ∨ i = 1 ∨ i = 2 by omega) with rfl | rfl | rfl
  · subst hc; exact Or.inl ⟨rfl, by decide⟩
  · subst hc; exact Or.inr (Or.inl ⟨rfl, by decide⟩)
  · subst hc; exact Or.inr (Or.inr ⟨rfl, by decide⟩)
def wkF (s a b : Int32) : Int32 := if s = 38 then (if ¬ a = 0 ∧ ¬ b = 0 then 1 else 0) else if s = 42 then a * b else if s = 43 then a + b else if s = 45 then a - b else if s = 47 then (if b = 0 then 0 else a / b) else if s = 60 then (if a < b then 1 else 0) else if s = 61 then (if a = b then 1 else 0) else if s = 62 then (if b < a then 1 else 0) else if s = 124 then (if ¬ a = 0 ∨ ¬ b = 0 then 1 else 0) else 0
theorem wk_two {c a b : Int32} (h0 : ¬ 0 ≤ c) (h9 : -9 ≤ c) : wkF (trC c - 10000) a b = twoF c a b := by
  rcases neg_cases h0 h9 with rfl | rfl | rfl | rfl | rfl | rfl | rfl | rfl | rfl
  · rw [show trC (-1) - 10000 = 124 by decide]; simp [wkF, twoF]
  · rw [show trC (-2) - 10000 = 38 by decide]; simp [wkF, twoF]
  · rw [show trC (-3) - 10000 = 60 by decide]; simp [wkF, twoF]
  · rw [show trC (-4) - 10000 = 61 by decide]; simp [wkF, twoF]
  · rw [show trC (-5) - 10000 = 62 by decide]; simp [wkF, twoF]
  · rw [show trC (-6) - 10000 = 43 by decide]; simp [wkF, twoF]
  · rw [show trC (-7) - 10000 = 45 by decide]; simp [wkF, twoF]
  · rw [show trC (-8) - 10000 = 42 by decide]; simp [wkF, twoF]
  · rw [show trC (-9) - 10000 = 47 by decide]; simp [wkF, twoF]

/-- the stack of a text alone is changed -/
def TF (t : Nat) (S S' : SS) : Prop := ∀ k, k ≠ 86 + 3 * t + 2 → S' k = S k
theorem TF.rf {t : Nat} {S : SS} : TF t S S := fun _ _ => rfl
theorem TF.tr {t : Nat} {S S' S'' : SS} (h : TF t S S') (h' : TF t S' S'') : TF t S S'' := fun k a => (h' k a).trans (h k a)
theorem TF.w {t j : Nat} {S : SS} {x : Int32} : TF t S (wr S (86 + 3 * t + 2) j x) := fun k a => wr_ne a
section Vo
variable {Θ : Th} {d : Nat} {S : SS} {v : WV}
theorem s_X8_workedOut {Q : Int32 → HP → Prop} {G : HP} {n : Nat} {c a b : Int32} (hq : Q (wkF c a b) G) : C Θ d 0 0 yX8_workedOut cX8_workedOut 3 (some .int) [.int c, .int a, .int b] n G (Qi Q) := by
  refine C_of rfl rfl (Nat.le_of_ble_eq_true rfl) ?_
  refine E_iload_n dX8_workedOut_0 rfl ?_
  refine E_top (fun x1 hx1 => ?_)
  by_cases k1_38 : x1 = 38
  · refine E_lsw (off := 140) (tgt := 141) dX8_workedOut_1 (by decide) (by rw [k1_38]; decide) (by decide) ?_
    refine E_iload_n dX8_workedOut_141 rfl ?_
    refine E_if_eq dX8_workedOut_142 (fun c142 => ?_) (fun c142 => ?_)
    · refine E_ic (v := 0) dX8_workedOut_153 (by decide) ?_
      refine E_iret dX8_workedOut_154 rfl rfl ?_
      first | (simpa [wkF, ← hx1, k1_38, c142] using hq) | (simp_all [wkF])
    · refine E_iload_n dX8_workedOut_145 rfl ?_
      refine E_if_eq dX8_workedOut_146 (fun c146 => ?_) (fun c146 => ?_)
      · refine E_ic (v := 0) dX8_workedOut_153 (by decide) ?_
        refine E_iret dX8_workedOut_154 rfl rfl ?_
        first | (simpa [wkF, ← hx1, k1_38, c142, c146] using hq) | (simp_all [wkF])
      · refine E_ic (v := 1) dX8_workedOut_149 (by decide) ?_
        refine E_goto dX8_workedOut_150 ?_
        refine E_iret dX8_workedOut_154 rfl rfl ?_
        first | (simpa [wkF, ← hx1, k1_38, c142, c146] using hq) | (simp_all [wkF])
  by_cases k1_42 : x1 = 42
  · refine E_lsw (off := 91) (tgt := 92) dX8_workedOut_1 (by decide) (by rw [k1_42]; decide) (by decide) ?_
    refine E_iload_n dX8_workedOut_92 rfl ?_
    refine E_iload_n dX8_workedOut_93 rfl ?_
    refine E_imul dX8_workedOut_94 ?_
    refine E_iret dX8_workedOut_95 rfl rfl ?_
    first | (simpa [wkF, ← hx1, k1_38, k1_42] using hq) | (simp_all [wkF])
  by_cases k1_43 : x1 = 43
  · refine E_lsw (off := 83) (tgt := 84) dX8_workedOut_1 (by decide) (by rw [k1_43]; decide) (by decide) ?_
    refine E_iload_n dX8_workedOut_84 rfl ?_
    refine E_iload_n dX8_workedOut_85 rfl ?_
    refine E_iadd dX8_workedOut_86 ?_
    refine E_iret dX8_workedOut_87 rfl rfl ?_
    first | (simpa [wkF, ← hx1, k1_38, k1_42, k1_43] using hq) | (simp_all [wkF])
  by_cases k1_45 : x1 = 45
  · refine E_lsw (off := 87) (tgt := 88) dX8_workedOut_1 (by decide) (by rw [k1_45]; decide) (by decide) ?_
    refine E_iload_n dX8_workedOut_88 rfl ?_
    refine E_iload_n dX8_workedOut_89 rfl ?_
    refine E_isub dX8_workedOut_90 ?_
    refine E_iret dX8_workedOut_91 rfl rfl ?_
    first | (simpa [wkF, ← hx1, k1_38, k1_42, k1_43, k1_45] using hq) | (simp_all [wkF])
  by_cases k1_47 : x1 = 47
  · refine E_lsw (off := 95) (tgt := 96) dX8_workedOut_1 (by decide) (by rw [k1_47]; decide) (by decide) ?_
    refine E_iload_n dX8_workedOut_96 rfl ?_
    refine E_if_ne dX8_workedOut_97 (fun c97 => ?_) (fun c97 => ?_)
    · refine E_iload_n dX8_workedOut_104 rfl ?_
      refine E_iload_n dX8_workedOut_105 rfl ?_
      refine E_idiv dX8_workedOut_106 c97 ?_
      refine E_iret dX8_workedOut_107 rfl rfl ?_
      first | (simpa [wkF, ← hx1, k1_38, k1_42, k1_43, k1_45, k1_47, c97] using hq) | (simp_all [wkF])
    · refine E_ic (v := 0) dX8_workedOut_100 (by decide) ?_
      refine E_goto dX8_workedOut_101 ?_
      refine E_iret dX8_workedOut_107 rfl rfl ?_
      first | (simpa [wkF, ← hx1, k1_38, k1_42, k1_43, k1_45, k1_47, c97] using hq) | (simp_all [wkF])
  by_cases k1_60 : x1 = 60
  · refine E_lsw (off := 107) (tgt := 108) dX8_workedOut_1 (by decide) (by rw [k1_60]; decide) (by decide) ?_
    refine E_iload_n dX8_workedOut_108 rfl ?_
    refine E_iload_n dX8_workedOut_109 rfl ?_
    refine E_icmp_ge dX8_workedOut_110 (fun c110 => ?_) (fun c110 => ?_)
    · refine E_ic (v := 0) dX8_workedOut_117 (by decide) ?_
      refine E_iret dX8_workedOut_118 rfl rfl ?_
      first | (simpa [wkF, ← hx1, k1_38, k1_42, k1_43, k1_45, k1_47, k1_60, c110, (i_lt c110)] using hq) | (simp_all [wkF])
    · refine E_ic (v := 1) dX8_workedOut_113 (by decide) ?_
      refine E_goto dX8_workedOut_114 ?_
      refine E_iret dX8_workedOut_118 rfl rfl ?_
      first | (simpa [wkF, ← hx1, k1_38, k1_42, k1_43, k1_45, k1_47, k1_60, c110, (i_nle c110)] using hq) | (simp_all [wkF])
  by_cases k1_61 : x1 = 61
  · refine E_lsw (off := 118) (tgt := 119) dX8_workedOut_1 (by decide) (by rw [k1_61]; decide) (by decide) ?_
    refine E_iload_n dX8_workedOut_119 rfl ?_
    refine E_iload_n dX8_workedOut_120 rfl ?_
    refine E_icmp_ne dX8_workedOut_121 (fun c121 => ?_) (fun c121 => ?_)
    · refine E_ic (v := 0) dX8_workedOut_128 (by decide) ?_
      refine E_iret dX8_workedOut_129 rfl rfl ?_
      first | (simpa [wkF, ← hx1, k1_38, k1_42, k1_43, k1_45, k1_47, k1_60, k1_61, c121] using hq) | (simp_all [wkF])
    · refine E_ic (v := 1) dX8_workedOut_124 (by decide) ?_
      refine E_goto dX8_workedOut_125 ?_
      refine E_iret dX8_workedOut_129 rfl rfl ?_
      first | (simpa [wkF, ← hx1, k1_38, k1_42, k1_43, k1_45, k1_47, k1_60, k1_61, c121] using hq) | (simp_all [wkF])
  by_cases k1_62 : x1 = 62
  · refine E_lsw (off := 129) (tgt := 130) dX8_workedOut_1 (by decide) (by rw [k1_62]; decide) (by decide) ?_
    refine E_iload_n dX8_workedOut_130 rfl ?_
    refine E_iload_n dX8_workedOut_131 rfl ?_
    refine E_icmp_le dX8_workedOut_132 (fun c132 => ?_) (fun c132 => ?_)
    · refine E_ic (v := 0) dX8_workedOut_139 (by decide) ?_
      refine E_iret dX8_workedOut_140 rfl rfl ?_
      first | (simpa [wkF, ← hx1, k1_38, k1_42, k1_43, k1_45, k1_47, k1_60, k1_61, k1_62, c132, (i_lt c132)] using hq) | (simp_all [wkF])
    · refine E_ic (v := 1) dX8_workedOut_135 (by decide) ?_
      refine E_goto dX8_workedOut_136 ?_
      refine E_iret dX8_workedOut_140 rfl rfl ?_
      first | (simpa [wkF, ← hx1, k1_38, k1_42, k1_43, k1_45, k1_47, k1_60, k1_61, k1_62, c132, (i_nle c132)] using hq) | (simp_all [wkF])
  by_cases k1_124 : x1 = 124
  · refine E_lsw (off := 154) (tgt := 155) dX8_workedOut_1 (by decide) (by rw [k1_124]; decide) (by decide) ?_
    refine E_iload_n dX8_workedOut_155 rfl ?_
    refine E_if_ne dX8_workedOut_156 (fun c156 => ?_) (fun c156 => ?_)
    · refine E_ic (v := 1) dX8_workedOut_163 (by decide) ?_
      refine E_goto dX8_workedOut_164 ?_
      refine E_iret dX8_workedOut_168 rfl rfl ?_
      first | (simpa [wkF, ← hx1, k1_38, k1_42, k1_43, k1_45, k1_47, k1_60, k1_61, k1_62, k1_124, c156] using hq) | (simp_all [wkF])
    · refine E_iload_n dX8_workedOut_159 rfl ?_
      refine E_if_eq dX8_workedOut_160 (fun c160 => ?_) (fun c160 => ?_)
      · refine E_ic (v := 0) dX8_workedOut_167 (by decide) ?_
        refine E_iret dX8_workedOut_168 rfl rfl ?_
        first | (simpa [wkF, ← hx1, k1_38, k1_42, k1_43, k1_45, k1_47, k1_60, k1_61, k1_62, k1_124, c156, c160] using hq) | (simp_all [wkF])
      · refine E_ic (v := 1) dX8_workedOut_163 (by decide) ?_
        refine E_goto dX8_workedOut_164 ?_
        refine E_iret dX8_workedOut_168 rfl rfl ?_
        first | (simpa [wkF, ← hx1, k1_38, k1_42, k1_43, k1_45, k1_47, k1_60, k1_61, k1_62, k1_124, c156, c160] using hq) | (simp_all [wkF])
  refine E_lsw (off := 168) (tgt := 169) dX8_workedOut_1 (by decide) ((lv_osw (k := 38) k1_38 (by decide)).trans <| (lv_osw (k := 42) k1_42 (by decide)).trans <| (lv_osw (k := 43) k1_43 (by decide)).trans <| (lv_osw (k := 45) k1_45 (by decide)).trans <| (lv_osw (k := 47) k1_47 (by decide)).trans <| (lv_osw (k := 60) k1_60 (by decide)).trans <| (lv_osw (k := 61) k1_61 (by decide)).trans <| (lv_osw (k := 62) k1_62 (by decide)).trans <| (lv_osw (k := 124) k1_124 (by decide)).trans <| rfl) (by decide) ?_
  refine E_ic (v := 0) dX8_workedOut_169 (by decide) ?_
  refine E_iret dX8_workedOut_170 rfl rfl ?_
  first | (simpa [wkF, ← hx1, k1_38, k1_42, k1_43, k1_45, k1_47, k1_60, k1_61, k1_62, k1_124] using hq) | (simp_all [wkF])
theorem l_X8_valueOf {Q : Int32 → HP → Prop} {t : Nat} {a b c : Int32} (ht15 : t < 15) (ok : txOk v t) : ∀ (f k : Nat) (S : SS) (x4 x5 : Int32), x4 = nI (evL (f3 a b c) (cdF v t) k).length → x5 = nI k → k + f = lnF v t → S (86 + 3 * t) 3 = nI (lnF v t) → (∀ i, i < lnF v t → S (86 + 3 * t + 1) i = trC (cdF v t i)) → stkOk (S (86 + 3 * t + 2)) (evL (f3 a b c) (cdF v t) k) → (∀ S', TF t S S' → Q (evF v t (f3 a b c)) (lay Θ S')) → E Θ (d + 1) 0 0 yX8_valueOf cX8_valueOf 7 (some .int) 0 0 183 (lay Θ S) 6 [(5, .int x5), (4, .int x4), (3, .int c), (2, .int b), (1, .int a), (0, .ref (tb Θ + (86 + 3 * t)))] [] (Qi Q) := by
  intro f
  have hkl : lnF v t ≤ 96 := ok.2.1
  induction f with
  | zero =>
    intro k S x4 x5 hx4 hx5 hkf hln hcd hst hq
    have hk9 : k = lnF v t := by omega
    have hl1 : (evL (f3 a b c) (cdF v t) k).length = 1 := by rw [hk9]; exact dp_len _ _ ok.2.2.1
    obtain ⟨x, r, hL⟩ := len1 hl1 (Nat.le_refl 1)
    refine E_iload dX8_valueOf_6 rfl ?_
    refine E_aload_n dX8_valueOf_8 rfl ?_
    refine L_get fX8_28 dX8_valueOf_9 (by have := ((isT_mk ht15)).lt; omega) (sh_T (isT_mk ht15)) rfl ?_
    rw [hln]
    refine E_icmp_ge dX8_valueOf_12 (fun _ => ?_) (fun c => absurd (by rw [hx5]; exact nI_le (by omega) (by omega)) c)
    refine E_iload dX8_valueOf_178 rfl ?_
    refine E_if_le dX8_valueOf_180 (fun c => absurd c (by rw [hx4, hl1]; decide)) (fun _ => ?_)
    refine E_aload_n dX8_valueOf_183 rfl ?_
    refine L_get fX8_15 dX8_valueOf_184 (by have := ((isT_mk ht15)).lt; omega) (sh_T (isT_mk ht15)) rfl ?_
    refine E_ic (v := 0) dX8_valueOf_187 (by decide) ?_
    refine L_iald (j := 0) dX8_valueOf_188 (by have := ((isT_mk ht15)).lt; omega) (sh_Ts (isT_mk ht15)) rfl (by decide) (by decide) ?_
    refine E_goto dX8_valueOf_189 ?_
    refine E_iret dX8_valueOf_193 rfl rfl ?_
    rw [hL] at hst
    have hr0 : r.length = 0 := by rw [hL] at hl1; simpa using hl1
    have h0 := hst.1
    rw [hr0] at h0
    have he : evF v t (f3 a b c) = S (86 + 3 * t + 2) 0 := by rw [evF, ← hk9, hL, h0]; rfl
    rw [← he]
    exact hq S TF.rf
  | succ f ih =>
    intro k S x4 x5 hx4 hx5 hkf hln hcd hst hq
    obtain ⟨q, hdp, hq47⟩ := ok.2.2.2.1 k (by omega)
    obtain ⟨q', hdp', hq47'⟩ := ok.2.2.2.1 (k + 1) (by omega)
    have hlen := dp_len (fa := f3 a b c) k q hdp
    refine E_iload dX8_valueOf_6 rfl ?_
    refine E_aload_n dX8_valueOf_8 rfl ?_
    refine L_get fX8_28 dX8_valueOf_9 (by have := ((isT_mk ht15)).lt; omega) (sh_T (isT_mk ht15)) rfl ?_
    rw [hln]
    refine E_icmp_ge dX8_valueOf_12 (fun c => absurd c (fun z => absurd ((nI_leI (by omega) (by omega)).mp (hx5 ▸ z)) (by omega))) (fun _ => ?_)
    refine E_aload_n dX8_valueOf_15 rfl ?_
    refine L_get fX8_9 dX8_valueOf_16 (by have := ((isT_mk ht15)).lt; omega) (sh_T (isT_mk ht15)) rfl ?_
    refine E_iload dX8_valueOf_19 rfl ?_
    refine L_iald (j := k) dX8_valueOf_21 (by have := ((isT_mk ht15)).lt; omega) (sh_Tc (isT_mk ht15)) hx5 (by omega) (by decide) ?_
    rw [hcd k (by omega)]
    rcases dp_next hdp hdp' with ⟨ca, cb⟩ | ⟨ca, cb⟩ | ⟨ca, cd0, cb, cc0⟩
    · by_cases c59 : cdF v t k < 10000
      · refine E_eq (z := cdF v t k) (tr_num ca c59) ?_
        refine E_istore dX8_valueOf_22 (by decide) ?_
        refine E_iload dX8_valueOf_24 rfl ?_
        refine E_sipush (v := 10000) dX8_valueOf_26 (by decide) ?_
        refine E_icmp_ge dX8_valueOf_29 (fun c => absurd c (i_le c59)) (fun _ => ?_)
        refine E_iload dX8_valueOf_32 rfl ?_
        refine E_aload_n dX8_valueOf_34 rfl ?_
        refine L_get fX8_15 dX8_valueOf_35 (by have := ((isT_mk ht15)).lt; omega) (sh_T (isT_mk ht15)) rfl ?_
        refine L_alen dX8_valueOf_38 (by have := ((isT_mk ht15)).lt; omega) (sh_Ts (isT_mk ht15)) rfl ?_
        refine E_icmp_ge dX8_valueOf_39 (fun c => absurd c (fun z => absurd ((nI_leI (by omega) (by omega)).mp (hx4 ▸ z)) (by omega))) (fun _ => ?_)
        refine E_aload_n dX8_valueOf_42 rfl ?_
        refine L_get fX8_15 dX8_valueOf_43 (by have := ((isT_mk ht15)).lt; omega) (sh_T (isT_mk ht15)) rfl ?_
        refine E_iload dX8_valueOf_46 rfl ?_
        refine E_iload dX8_valueOf_48 rfl ?_
        refine E_if_lt dX8_valueOf_50 (fun c => absurd c (i_lt ca)) (fun _ => ?_)
        refine E_iload dX8_valueOf_53 rfl ?_
        refine E_goto dX8_valueOf_55 ?_
        refine L_iast (j := (evL (f3 a b c) (cdF v t) k).length) dX8_valueOf_80 (by have := ((isT_mk ht15)).lt; omega) (sh_Ts (isT_mk ht15)) hx4 (by omega) (by decide) ?_
        refine E_iinc (v := 1) dX8_valueOf_81 rfl (by decide) (by decide) ?_
        refine E_goto dX8_valueOf_84 ?_
        refine E_iinc (v := 1) dX8_valueOf_172 rfl (by decide) (by decide) ?_
        refine E_goto dX8_valueOf_175 ?_
        have ev : evL (f3 a b c) (cdF v t) (k + 1) = cdF v t k :: evL (f3 a b c) (cdF v t) k := by rw [evL, evS.eq_def, if_pos ca, if_pos c59]
        exact E.loc (by exact ⟨rfl, rfl, rfl, rfl, rfl, rfl, trivial⟩) (ih (k + 1) _ _ _ (by rw [hx4, nI_1, ev]; rfl) (by rw [hx5, nI_1]) (by omega) (by rw [wr_ne (by omega)]; exact hln) (fun i hi => by rw [wr_ne (by omega)]; exact hcd i hi) (by rw [ev, wr_at]; exact stk_push hst) (fun S9 b9 => hq S9 (TF.w.tr b9)))
      · obtain ⟨i3, hi3l, hi3, hi3c⟩ := nmI (i_nlt c59) cb
        rcases tr_nam ca c59 hi3l hi3 with ⟨rfl, e3⟩ | ⟨rfl, e3⟩ | ⟨rfl, e3⟩
        · refine E_eq (z := (-1)) e3 ?_
          refine E_istore dX8_valueOf_22 (by decide) ?_
          refine E_iload dX8_valueOf_24 rfl ?_
          refine E_sipush (v := 10000) dX8_valueOf_26 (by decide) ?_
          refine E_icmp_ge dX8_valueOf_29 (fun c => absurd c (by decide)) (fun _ => ?_)
          refine E_iload dX8_valueOf_32 rfl ?_
          refine E_aload_n dX8_valueOf_34 rfl ?_
          refine L_get fX8_15 dX8_valueOf_35 (by have := ((isT_mk ht15)).lt; omega) (sh_T (isT_mk ht15)) rfl ?_
          refine L_alen dX8_valueOf_38 (by have := ((isT_mk ht15)).lt; omega) (sh_Ts (isT_mk ht15)) rfl ?_
          refine E_icmp_ge dX8_valueOf_39 (fun c => absurd c (fun z => absurd ((nI_leI (by omega) (by omega)).mp (hx4 ▸ z)) (by omega))) (fun _ => ?_)
          refine E_aload_n dX8_valueOf_42 rfl ?_
          refine L_get fX8_15 dX8_valueOf_43 (by have := ((isT_mk ht15)).lt; omega) (sh_T (isT_mk ht15)) rfl ?_
          refine E_iload dX8_valueOf_46 rfl ?_
          refine E_iload dX8_valueOf_48 rfl ?_
          refine E_if_lt dX8_valueOf_50 (fun _ => ?_) (fun c => absurd (by decide) c)
          refine E_iload dX8_valueOf_58 rfl ?_
          refine E_ic (v := (-1)) dX8_valueOf_60 (by decide) ?_
          refine E_icmp_ne dX8_valueOf_61 (fun c => absurd rfl c) (fun _ => ?_)
          refine E_iload_n dX8_valueOf_64 rfl ?_
          refine E_goto dX8_valueOf_65 ?_
          refine L_iast (j := (evL (f3 a b c) (cdF v t) k).length) dX8_valueOf_80 (by have := ((isT_mk ht15)).lt; omega) (sh_Ts (isT_mk ht15)) hx4 (by omega) (by decide) ?_
          refine E_iinc (v := 1) dX8_valueOf_81 rfl (by decide) (by decide) ?_
          refine E_goto dX8_valueOf_84 ?_
          refine E_iinc (v := 1) dX8_valueOf_172 rfl (by decide) (by decide) ?_
          refine E_goto dX8_valueOf_175 ?_
          have ev : evL (f3 a b c) (cdF v t) (k + 1) = a :: evL (f3 a b c) (cdF v t) k := by rw [evL, evS.eq_def, if_pos ca, if_neg c59, hi3c]; rfl
          exact E.loc (by exact ⟨rfl, rfl, rfl, rfl, rfl, rfl, trivial⟩) (ih (k + 1) _ _ _ (by rw [hx4, nI_1, ev]; rfl) (by rw [hx5, nI_1]) (by omega) (by rw [wr_ne (by omega)]; exact hln) (fun i hi => by rw [wr_ne (by omega)]; exact hcd i hi) (by rw [ev, wr_at]; exact stk_push hst) (fun S9 b9 => hq S9 (TF.w.tr b9)))
        · refine E_eq (z := (-2)) e3 ?_
          refine E_istore dX8_valueOf_22 (by decide) ?_
          refine E_iload dX8_valueOf_24 rfl ?_
          refine E_sipush (v := 10000) dX8_valueOf_26 (by decide) ?_
          refine E_icmp_ge dX8_valueOf_29 (fun c => absurd c (by decide)) (fun _ => ?_)
          refine E_iload dX8_valueOf_32 rfl ?_
          refine E_aload_n dX8_valueOf_34 rfl ?_
          refine L_get fX8_15 dX8_valueOf_35 (by have := ((isT_mk ht15)).lt; omega) (sh_T (isT_mk ht15)) rfl ?_
          refine L_alen dX8_valueOf_38 (by have := ((isT_mk ht15)).lt; omega) (sh_Ts (isT_mk ht15)) rfl ?_
          refine E_icmp_ge dX8_valueOf_39 (fun c => absurd c (fun z => absurd ((nI_leI (by omega) (by omega)).mp (hx4 ▸ z)) (by omega))) (fun _ => ?_)
          refine E_aload_n dX8_valueOf_42 rfl ?_
          refine L_get fX8_15 dX8_valueOf_43 (by have := ((isT_mk ht15)).lt; omega) (sh_T (isT_mk ht15)) rfl ?_
          refine E_iload dX8_valueOf_46 rfl ?_
          refine E_iload dX8_valueOf_48 rfl ?_
          refine E_if_lt dX8_valueOf_50 (fun _ => ?_) (fun c => absurd (by decide) c)
          refine E_iload dX8_valueOf_58 rfl ?_
          refine E_ic (v := (-1)) dX8_valueOf_60 (by decide) ?_
          refine E_icmp_ne dX8_valueOf_61 (fun _ => ?_) (fun c => absurd c (by decide))
          refine E_iload dX8_valueOf_68 rfl ?_
          refine E_bipush (v := (-2)) dX8_valueOf_70 (by decide) ?_
          refine E_icmp_ne dX8_valueOf_72 (fun c => absurd rfl c) (fun _ => ?_)
          refine E_iload_n dX8_valueOf_75 rfl ?_
          refine E_goto dX8_valueOf_76 ?_
          refine L_iast (j := (evL (f3 a b c) (cdF v t) k).length) dX8_valueOf_80 (by have := ((isT_mk ht15)).lt; omega) (sh_Ts (isT_mk ht15)) hx4 (by omega) (by decide) ?_
          refine E_iinc (v := 1) dX8_valueOf_81 rfl (by decide) (by decide) ?_
          refine E_goto dX8_valueOf_84 ?_
          refine E_iinc (v := 1) dX8_valueOf_172 rfl (by decide) (by decide) ?_
          refine E_goto dX8_valueOf_175 ?_
          have ev : evL (f3 a b c) (cdF v t) (k + 1) = b :: evL (f3 a b c) (cdF v t) k := by rw [evL, evS.eq_def, if_pos ca, if_neg c59, hi3c]; rfl
          exact E.loc (by exact ⟨rfl, rfl, rfl, rfl, rfl, rfl, trivial⟩) (ih (k + 1) _ _ _ (by rw [hx4, nI_1, ev]; rfl) (by rw [hx5, nI_1]) (by omega) (by rw [wr_ne (by omega)]; exact hln) (fun i hi => by rw [wr_ne (by omega)]; exact hcd i hi) (by rw [ev, wr_at]; exact stk_push hst) (fun S9 b9 => hq S9 (TF.w.tr b9)))
        · refine E_eq (z := (-3)) e3 ?_
          refine E_istore dX8_valueOf_22 (by decide) ?_
          refine E_iload dX8_valueOf_24 rfl ?_
          refine E_sipush (v := 10000) dX8_valueOf_26 (by decide) ?_
          refine E_icmp_ge dX8_valueOf_29 (fun c => absurd c (by decide)) (fun _ => ?_)
          refine E_iload dX8_valueOf_32 rfl ?_
          refine E_aload_n dX8_valueOf_34 rfl ?_
          refine L_get fX8_15 dX8_valueOf_35 (by have := ((isT_mk ht15)).lt; omega) (sh_T (isT_mk ht15)) rfl ?_
          refine L_alen dX8_valueOf_38 (by have := ((isT_mk ht15)).lt; omega) (sh_Ts (isT_mk ht15)) rfl ?_
          refine E_icmp_ge dX8_valueOf_39 (fun c => absurd c (fun z => absurd ((nI_leI (by omega) (by omega)).mp (hx4 ▸ z)) (by omega))) (fun _ => ?_)
          refine E_aload_n dX8_valueOf_42 rfl ?_
          refine L_get fX8_15 dX8_valueOf_43 (by have := ((isT_mk ht15)).lt; omega) (sh_T (isT_mk ht15)) rfl ?_
          refine E_iload dX8_valueOf_46 rfl ?_
          refine E_iload dX8_valueOf_48 rfl ?_
          refine E_if_lt dX8_valueOf_50 (fun _ => ?_) (fun c => absurd (by decide) c)
          refine E_iload dX8_valueOf_58 rfl ?_
          refine E_ic (v := (-1)) dX8_valueOf_60 (by decide) ?_
          refine E_icmp_ne dX8_valueOf_61 (fun _ => ?_) (fun c => absurd c (by decide))
          refine E_iload dX8_valueOf_68 rfl ?_
          refine E_bipush (v := (-2)) dX8_valueOf_70 (by decide) ?_
          refine E_icmp_ne dX8_valueOf_72 (fun _ => ?_) (fun c => absurd c (by decide))
          refine E_iload_n dX8_valueOf_79 rfl ?_
          refine L_iast (j := (evL (f3 a b c) (cdF v t) k).length) dX8_valueOf_80 (by have := ((isT_mk ht15)).lt; omega) (sh_Ts (isT_mk ht15)) hx4 (by omega) (by decide) ?_
          refine E_iinc (v := 1) dX8_valueOf_81 rfl (by decide) (by decide) ?_
          refine E_goto dX8_valueOf_84 ?_
          refine E_iinc (v := 1) dX8_valueOf_172 rfl (by decide) (by decide) ?_
          refine E_goto dX8_valueOf_175 ?_
          have ev : evL (f3 a b c) (cdF v t) (k + 1) = c :: evL (f3 a b c) (cdF v t) k := by rw [evL, evS.eq_def, if_pos ca, if_neg c59, hi3c]; rfl
          exact E.loc (by exact ⟨rfl, rfl, rfl, rfl, rfl, rfl, trivial⟩) (ih (k + 1) _ _ _ (by rw [hx4, nI_1, ev]; rfl) (by rw [hx5, nI_1]) (by omega) (by rw [wr_ne (by omega)]; exact hln) (fun i hi => by rw [wr_ne (by omega)]; exact hcd i hi) (by rw [ev, wr_at]; exact stk_push hst) (fun S9 b9 => hq S9 (TF.w.tr b9)))
    · obtain ⟨x, r, hL⟩ := len1 hlen cb
      rw [hL] at hx4 hst hlen
      simp only [List.length_cons] at hx4 hlen
      have hr : x4 - 1 = nI r.length := by rw [hx4, nI_pred]
      refine E_eq (z := 10033) (by rw [ca]; decide) ?_
      refine E_istore dX8_valueOf_22 (by decide) ?_
      refine E_iload dX8_valueOf_24 rfl ?_
      refine E_sipush (v := 10000) dX8_valueOf_26 (by decide) ?_
      refine E_icmp_ge dX8_valueOf_29 (fun _ => ?_) (fun c => absurd (by decide) c)
      refine E_iload dX8_valueOf_87 rfl ?_
      refine E_sipush (v := 10033) dX8_valueOf_89 (by decide) ?_
      refine E_icmp_ne dX8_valueOf_92 (fun c => absurd rfl c) (fun _ => ?_)
      refine E_iload dX8_valueOf_95 rfl ?_
      refine E_if_le dX8_valueOf_97 (fun c => absurd c (by rw [hx4]; exact nI_nle (by omega) (by omega))) (fun _ => ?_)
      refine E_aload_n dX8_valueOf_100 rfl ?_
      refine L_get fX8_15 dX8_valueOf_101 (by have := ((isT_mk ht15)).lt; omega) (sh_T (isT_mk ht15)) rfl ?_
      refine E_iload dX8_valueOf_104 rfl ?_
      refine E_ic (v := 1) dX8_valueOf_106 (by decide) ?_
      refine E_isub dX8_valueOf_107 ?_
      refine E_aload_n dX8_valueOf_108 rfl ?_
      refine L_get fX8_15 dX8_valueOf_109 (by have := ((isT_mk ht15)).lt; omega) (sh_T (isT_mk ht15)) rfl ?_
      refine E_iload dX8_valueOf_112 rfl ?_
      refine E_ic (v := 1) dX8_valueOf_114 (by decide) ?_
      refine E_isub dX8_valueOf_115 ?_
      refine L_iald (j := r.length) dX8_valueOf_116 (by have := ((isT_mk ht15)).lt; omega) (sh_Ts (isT_mk ht15)) hr (by omega) (by decide) ?_
      refine E_if_ne dX8_valueOf_117 (fun c117 => ?_) (fun c117 => ?_)
      · refine E_ic (v := 0) dX8_valueOf_124 (by decide) ?_
        refine L_iast (j := r.length) dX8_valueOf_125 (by have := ((isT_mk ht15)).lt; omega) (sh_Ts (isT_mk ht15)) hr (by omega) (by decide) ?_
        refine E_goto dX8_valueOf_126 ?_
        refine E_iinc (v := 1) dX8_valueOf_172 rfl (by decide) (by decide) ?_
        refine E_goto dX8_valueOf_175 ?_
        have ev : evL (f3 a b c) (cdF v t) (k + 1) = (if x = 0 then 1 else 0) :: r := by rw [evL, evS.eq_def, if_neg (by rw [ca]; decide), if_pos ca, hL]
        exact E.loc (by exact ⟨rfl, rfl, rfl, rfl, rfl, rfl, trivial⟩) (ih (k + 1) _ _ _ (by rw [hx4, ev]; rfl) (by rw [hx5, nI_1]) (by omega) (by rw [wr_ne (by omega)]; exact hln) (fun i hi => by rw [wr_ne (by omega)]; exact hcd i hi) (by rw [ev, wr_at]; rw [hst.1] at c117; exact ⟨by rw [pk_us]; simp [c117], stk_upd (Nat.le_refl _) hst.2⟩) (fun S9 b9 => hq S9 (TF.w.tr b9)))
      · refine E_ic (v := 1) dX8_valueOf_120 (by decide) ?_
        refine E_goto dX8_valueOf_121 ?_
        refine L_iast (j := r.length) dX8_valueOf_125 (by have := ((isT_mk ht15)).lt; omega) (sh_Ts (isT_mk ht15)) hr (by omega) (by decide) ?_
        refine E_goto dX8_valueOf_126 ?_
        refine E_iinc (v := 1) dX8_valueOf_172 rfl (by decide) (by decide) ?_
        refine E_goto dX8_valueOf_175 ?_
        have ev : evL (f3 a b c) (cdF v t) (k + 1) = (if x = 0 then 1 else 0) :: r := by rw [evL, evS.eq_def, if_neg (by rw [ca]; decide), if_pos ca, hL]
        exact E.loc (by exact ⟨rfl, rfl, rfl, rfl, rfl, rfl, trivial⟩) (ih (k + 1) _ _ _ (by rw [hx4, ev]; rfl) (by rw [hx5, nI_1]) (by omega) (by rw [wr_ne (by omega)]; exact hln) (fun i hi => by rw [wr_ne (by omega)]; exact hcd i hi) (by rw [ev, wr_at]; rw [hst.1] at c117; exact ⟨by rw [pk_us]; simp [c117], stk_upd (Nat.le_refl _) hst.2⟩) (fun S9 b9 => hq S9 (TF.w.tr b9)))
    · obtain ⟨x, z, r, hL⟩ := len2 hlen cb
      rw [hL] at hx4 hst hlen
      simp only [List.length_cons] at hx4 hlen
      have hr1 : x4 + (-1) = nI (r.length + 1) := by rw [hx4]; exact pk_m1 _
      have hr : x4 + (-1) - 1 = nI r.length := by rw [hr1, nI_pred]
      obtain ⟨t1, t2⟩ := tr_bin ca cc0
      refine E_istore dX8_valueOf_22 (by decide) ?_
      refine E_iload dX8_valueOf_24 rfl ?_
      refine E_sipush (v := 10000) dX8_valueOf_26 (by decide) ?_
      refine E_icmp_ge dX8_valueOf_29 (fun _ => ?_) (fun c => absurd t1 c)
      refine E_iload dX8_valueOf_87 rfl ?_
      refine E_sipush (v := 10033) dX8_valueOf_89 (by decide) ?_
      refine E_icmp_ne dX8_valueOf_92 (fun _ => ?_) (fun c => absurd c t2)
      refine E_iload dX8_valueOf_129 rfl ?_
      refine E_ic (v := 1) dX8_valueOf_131 (by decide) ?_
      refine E_icmp_le dX8_valueOf_132 (fun c => absurd c (fun q => absurd ((nI_leI (b := 1) (by omega) (by omega)).mp (hx4 ▸ q)) (by omega))) (fun _ => ?_)
      refine E_iinc (v := (-1)) dX8_valueOf_135 rfl (by decide) (by decide) ?_
      refine E_aload_n dX8_valueOf_138 rfl ?_
      refine L_get fX8_15 dX8_valueOf_139 (by have := ((isT_mk ht15)).lt; omega) (sh_T (isT_mk ht15)) rfl ?_
      refine E_iload dX8_valueOf_142 rfl ?_
      refine E_ic (v := 1) dX8_valueOf_144 (by decide) ?_
      refine E_isub dX8_valueOf_145 ?_
      refine E_iload dX8_valueOf_146 rfl ?_
      refine E_sipush (v := 10000) dX8_valueOf_148 (by decide) ?_
      refine E_isub dX8_valueOf_151 ?_
      refine E_aload_n dX8_valueOf_152 rfl ?_
      refine L_get fX8_15 dX8_valueOf_153 (by have := ((isT_mk ht15)).lt; omega) (sh_T (isT_mk ht15)) rfl ?_
      refine E_iload dX8_valueOf_156 rfl ?_
      refine E_ic (v := 1) dX8_valueOf_158 (by decide) ?_
      refine E_isub dX8_valueOf_159 ?_
      refine L_iald (j := r.length) dX8_valueOf_160 (by have := ((isT_mk ht15)).lt; omega) (sh_Ts (isT_mk ht15)) hr (by omega) (by decide) ?_
      refine E_aload_n dX8_valueOf_161 rfl ?_
      refine L_get fX8_15 dX8_valueOf_162 (by have := ((isT_mk ht15)).lt; omega) (sh_T (isT_mk ht15)) rfl ?_
      refine E_iload dX8_valueOf_165 rfl ?_
      refine L_iald (j := r.length + 1) dX8_valueOf_167 (by have := ((isT_mk ht15)).lt; omega) (sh_Ts (isT_mk ht15)) hr1 (by omega) (by decide) ?_
      refine E_S3i sX8_35 dX8_valueOf_168 (Nat.le_of_ble_eq_true rfl) (s_X8_workedOut ?_)
      refine L_iast (j := r.length) dX8_valueOf_171 (by have := ((isT_mk ht15)).lt; omega) (sh_Ts (isT_mk ht15)) hr (by omega) (by decide) ?_
      refine E_iinc (v := 1) dX8_valueOf_172 rfl (by decide) (by decide) ?_
      refine E_goto dX8_valueOf_175 ?_
      have ev : evL (f3 a b c) (cdF v t) (k + 1) = twoF (cdF v t k) z x :: r := by rw [evL, evS.eq_def, if_neg ca, if_neg cd0, hL]
      exact E.loc (by exact ⟨rfl, rfl, rfl, rfl, rfl, rfl, trivial⟩) (ih (k + 1) _ _ _ (by rw [hr1, ev]; rfl) (by rw [hx5, nI_1]) (by omega) (by rw [wr_ne (by omega)]; exact hln) (fun i hi => by rw [wr_ne (by omega)]; exact hcd i hi) (by rw [ev, wr_at]; refine ⟨?_, stk_upd (Nat.le_refl _) hst.2.2⟩; rw [pk_us, wk_two ca cc0, hst.2.1, show S (86 + 3 * t + 2) (r.length + 1) = x from hst.1]) (fun S9 b9 => hq S9 (TF.w.tr b9)))
theorem s_X8_valueOf {Q : Int32 → HP → Prop} {t : Nat} {a b c : Int32} (ht15 : t < 15) (ok : txOk v t) (hln : S (86 + 3 * t) 3 = nI (lnF v t)) (hcd : ∀ i, i < lnF v t → S (86 + 3 * t + 1) i = trC (cdF v t i)) (hq : ∀ S', TF t S S' → Q (evF v t (f3 a b c)) (lay Θ S')) : C Θ (d + 1) 0 0 yX8_valueOf cX8_valueOf 7 (some .int) [.ref (tb Θ + (86 + 3 * t)), .int a, .int b, .int c] 183 (lay Θ S) (Qi Q) := by
  refine C_of rfl rfl (Nat.le_of_ble_eq_true rfl) ?_
  refine E_ic (v := 0) dX8_valueOf_0 (by decide) ?_
  refine E_istore dX8_valueOf_1 (by decide) ?_
  refine E_ic (v := 0) dX8_valueOf_3 (by decide) ?_
  refine E_istore dX8_valueOf_4 (by decide) ?_
  exact E.loc (by exact ⟨rfl, rfl, rfl, rfl, rfl, rfl, trivial⟩) (l_X8_valueOf ht15 ok (lnF v t) 0 S 0 0 rfl rfl (by omega) hln hcd trivial hq)
end Vo
