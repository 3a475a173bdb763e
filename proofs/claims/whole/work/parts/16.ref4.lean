/-! the reference: speech, quarrels, minutes -/
theorem evL_congr {fa fb cd : Nat → Int32} (hf : ∀ i, i < 3 → fa i = fb i) : ∀ k, (∀ i, i ≤ k → ∃ q, dpF cd i = some q) → evL fa cd k = evL fb cd k
  | 0, _ => rfl
  | k + 1, h => by
    obtain ⟨q, hq⟩ := h k (by omega)
    obtain ⟨q', hq'⟩ := h (k + 1) (by omega)
    have ih := evL_congr hf k (fun i hi => h i (by omega))
    rw [evL, evL, ih]
    rcases dp_next hq hq' with ⟨a, b⟩ | ⟨a, b⟩ | ⟨a, b, c, e⟩
    · by_cases c1 : cd k < 10000
      · rw [evS.eq_def, evS.eq_def, if_pos a, if_pos a, if_pos c1, if_pos c1]
      · obtain ⟨i, hi, -, h2⟩ := nmI (i_nlt c1) b
        rw [evS.eq_def, evS.eq_def, if_pos a, if_pos a, if_neg c1, if_neg c1, h2, hf i hi]
    · have a0 : ¬ 0 ≤ cd k := by rw [a]; decide
      simp only [evS.eq_def, if_neg a0, if_pos a]
    · simp only [evS.eq_def, if_neg a, if_neg b]
theorem evF_congr {v : WV} {t : Nat} {fa fb : Nat → Int32} (ok : txOk v t) (hf : ∀ i, i < 3 → fa i = fb i) : evF v t fa = evF v t fb := by
  rw [evF, evF, evL_congr hf _ (fun i hi => (ok.2.2.2.1 i hi).imp fun q h => h.1)]
theorem f3_eq {fa : Nat → Int32} {a b c : Int32} (h0 : fa 0 = a) (h1 : fa 1 = b) (h2 : fa 2 = c) : ∀ i, i < 3 → fa i = f3 a b c i := by
  intro i hi
  match i, hi with
  | 0, _ => exact h0
  | 1, _ => exact h1
  | 2, _ => exact h2
  | k + 3, h => exact absurd h (by omega)
theorem cnt_ix {v : WV} {key : Int32} : ∀ t, 0 ≤ cntF v key t → ∃ i, i < t ∧ cntF v key t = nI i
  | 0, h => absurd h (by rw [cntF]; decide)
  | t + 1, h => by
    rw [cntF] at h ⊢
    by_cases c : v (96 + 2 * t) / 1000 = key
    · rw [if_pos c]
      exact ⟨t, by omega, rfl⟩
    · rw [if_neg c] at h ⊢
      obtain ⟨i, hi, e⟩ := cnt_ix t h
      exact ⟨i, by omega, e⟩
theorem nx_lt {v : WV} {b : Int32} {n : Nat} : ∀ f p, f ≤ n → nxF v b n f = some p → n - f ≤ p ∧ p < n ∧ v (16 + 9 * p) = b
  | 0, p, _, h => by simp [nxF] at h
  | f + 1, p, hf, h => by
    rw [nxF] at h
    by_cases c : v (16 + 9 * (n - (f + 1))) = b
    · rw [if_pos c] at h
      cases h
      exact ⟨Nat.le_refl _, by omega, c⟩
    · rw [if_neg c] at h
      have := nx_lt f p (by omega) h
      exact ⟨by omega, this.2⟩
theorem nxA_lt {v : WV} {b : Int32} {a p : Nat} (h : nxA v b a = some p) : a ≤ p ∧ p < mN v ∧ v (16 + 9 * p) = b := by
  have := nx_lt _ _ (by omega) h
  exact ⟨by omega, this.2⟩
theorem q_eq {Q : Int32 → HP → Prop} {a b : Int32} {G : HP} (h : Q a G) (e : a = b) : Q b G := e ▸ h
section Ref4
variable {Θ : Th} {d : Nat} {S : SS} {v : WV}
theorem s_X12_worksOutF {Q : Int32 → HP → Prop} {t : Nat} {x a b c : Int32} (hv : S 160 = v) (h0 : S 173 0 = a) (h1 : S 173 1 = b) (h2 : S 173 2 = c) (hx : x = nI t) (ht : t < 14) (ok : txOk v t) (hq : ∀ S', S' 160 = v → MF S S' → Q (evF v t (f3 a b c)) (lay Θ S')) : C Θ (d + 1) 0 0 yX12_worksOut cX12_worksOut 6 (some .int) [.ref (tb Θ + 159), .int x] 183 (lay Θ S) (Qi Q) := by
  subst hx
  refine s_X12_worksOut hv rfl ht ok ?_
  rw [evF_congr ok (f3_eq h0 h1 h2)]
  exact hq
theorem s_X12_speaks {Q : Int32 → HP → Prop} {x y z : Int32} (hv : S 160 = v) {t : Nat} (ht : v 14 = nI t) (ht14 : t ≤ 14) (hok : ∀ i, i < t → txOk v i) (p o j : Nat) (hp : x = nI p) (ho : y = nI o) (hj : z = nI j) (hp9 : p < 9) (ho9 : o < 9) (hj6 : j < 6) (hq : ∀ S', S' 160 = v → MF S S' → Q (spV v p o j) (lay Θ S')) : C Θ (d + 2) 0 0 yX12_speaks cX12_speaks 8 (some .int) [.ref (tb Θ + 159), .int x, .int y, .int z] 183 (lay Θ S) (Qi Q) := by
  refine C_of rfl rfl (Nat.le_of_ble_eq_true rfl) ?_
  refine E_aload_n dX12_speaks_0 rfl ?_
  refine E_iload_n dX12_speaks_1 rfl ?_
  refine E_iload_n dX12_speaks_2 rfl ?_
  refine E_iload_n dX12_speaks_3 rfl ?_
  refine E_V3i vX12_89_12 dX12_speaks_4 (Nat.le_of_ble_eq_true rfl) (by decide) (sh_159 _) (s_X12_apart hv p o j hp ho hj hp9 ho9 hj6 ?_)
  refine E_istore dX12_speaks_7 (by decide) ?_
  refine E_aload_n dX12_speaks_9 rfl ?_
  refine E_ic (v := 0) dX12_speaks_10 (by decide) ?_
  refine E_V1i vX12_93_12 dX12_speaks_11 (Nat.le_of_ble_eq_true rfl) (by decide) (sh_159 _) (s_X12_counts hv ht ht14 ?_)
  refine E_istore dX12_speaks_14 (by decide) ?_
  refine E_aload_n dX12_speaks_16 rfl ?_
  refine L_get fX12_51 dX12_speaks_17 (by decide) sh_159 rfl ?_
  refine E_ic (v := 0) dX12_speaks_20 (by decide) ?_
  refine E_iload dX12_speaks_21 rfl ?_
  refine L_iast (j := 0) dX12_speaks_23 (by decide) sh_173 rfl (by decide) (by decide) ?_
  refine E_aload_n dX12_speaks_24 rfl ?_
  refine L_get fX12_51 dX12_speaks_25 (by decide) sh_159 rfl ?_
  refine E_ic (v := 1) dX12_speaks_28 (by decide) ?_
  refine E_aload_n dX12_speaks_29 rfl ?_
  refine E_iload_n dX12_speaks_30 rfl ?_
  refine E_ic (v := 2) dX12_speaks_31 (by decide) ?_
  refine E_V2i vX12_85_12 dX12_speaks_32 (Nat.le_of_ble_eq_true rfl) (by decide) (sh_159 _) (s_X12_of ((wr_ne (by decide)).trans hv) p (2) (17 + 9 * p) hp rfl (by omega) (by omega) ?_)
  refine L_iast (j := 1) dX12_speaks_35 (by decide) sh_173 rfl (by decide) (by decide) ?_
  refine E_aload_n dX12_speaks_36 rfl ?_
  refine L_get fX12_51 dX12_speaks_37 (by decide) sh_159 rfl ?_
  refine E_ic (v := 2) dX12_speaks_40 (by decide) ?_
  refine E_aload_n dX12_speaks_41 rfl ?_
  refine L_get fX12_9 dX12_speaks_42 (by decide) sh_159 rfl ?_
  refine E_ic (v := 2) dX12_speaks_45 (by decide) ?_
  refine N_iald (j := 2) dX12_speaks_46 rfl (by decide) ((wr_ne (by decide)).trans ((wr_ne (by decide)).trans hv)) ?_
  refine L_iast (j := 2) dX12_speaks_47 (by decide) sh_173 rfl (by decide) (by decide) ?_
  refine E_iload dX12_speaks_48 rfl ?_
  refine E_if_ge dX12_speaks_50 (fun c50 => ?_) (fun c50 => ?_)
  · refine E_aload_n dX12_speaks_58 rfl ?_
    refine E_iload dX12_speaks_59 rfl ?_
    obtain ⟨tl, htl9, htl⟩ := cnt_ix (v := v) (key := 0) (tN v) c50
    have htn : tN v = t := by rw [tN, ht, nI_clamp (by omega)]
    have hlt : lawF v 0 = nI tl := htl
    rw [show cntF v 0 (tN v) = lawF v 0 from rfl] at htl
    refine E_V1i vX12_97_12 dX12_speaks_61 (Nat.le_of_ble_eq_true rfl) (by decide) (sh_159 _) (s_X12_worksOutF ((wr_ne (by decide)).trans ((wr_ne (by decide)).trans ((wr_ne (by decide)).trans hv))) (a := apV v p o j) (b := v (17 + 9 * p)) (c := v 2) (by simp [wr_at, upd]) (by simp [wr_at, upd]) (by simp [wr_at, upd]) htl (by omega) (hok tl (by omega)) (fun S61 h61 f61 => ?_))
    refine E_ic (v := 0) dX12_speaks_64 (by decide) ?_
    refine E_bipush (v := 99) dX12_speaks_65 (by decide) ?_
    refine E_S3i sX12_100 dX12_speaks_67 (Nat.le_of_ble_eq_true rfl) (s_X12_within ?_)
    refine E_istore dX12_speaks_70 (by decide) ?_
    refine E_iload dX12_speaks_72 rfl ?_
    refine E_if_le dX12_speaks_74 (fun c74 => ?_) (fun c74 => ?_)
    · refine E_iload dX12_speaks_84 rfl ?_
      refine E_istore dX12_speaks_86 (by decide) ?_
      refine E_aload_n dX12_speaks_88 rfl ?_
      refine E_iload_n dX12_speaks_89 rfl ?_
      refine E_ic (v := 0) dX12_speaks_90 (by decide) ?_
      refine E_V2i vX12_85_12 dX12_speaks_91 (Nat.le_of_ble_eq_true rfl) (by decide) (sh_159 _) (s_X12_of h61 p (0) (15 + 9 * p) hp rfl (by omega) (by omega) ?_)
      refine E_top (fun x94 hx94 => ?_)
      by_cases k94_1 : x94 = 1
      · refine E_tswI (tgt := 124) dX12_speaks_94 0 (by rw [k94_1]; decide) (by decide) rfl (by decide) ?_
        refine E_iload dX12_speaks_124 rfl ?_
        refine E_iret dX12_speaks_126 rfl rfl ?_
        refine q_eq (hq _ (h61) (((((MF.rf).tr MF.w3).tr MF.w3).tr MF.w3).tr f61)) ?_
        simp [spV, spF, plF, kdF, tmF, hlt, nI_clamp (n := tl) (by omega), nI_pos (n := tl) (by omega), c74, (i_lt c74), ← hx94, k94_1]
      by_cases k94_2 : x94 = 2
      · refine E_tswI (tgt := 127) dX12_speaks_94 1 (by rw [k94_2]; decide) (by decide) rfl (by decide) ?_
        refine E_iload dX12_speaks_127 rfl ?_
        refine E_ic (v := 3) dX12_speaks_129 (by decide) ?_
        refine E_iadd dX12_speaks_130 ?_
        refine E_iret dX12_speaks_131 rfl rfl ?_
        refine q_eq (hq _ (h61) (((((MF.rf).tr MF.w3).tr MF.w3).tr MF.w3).tr f61)) ?_
        simp [spV, spF, plF, kdF, tmF, hlt, nI_clamp (n := tl) (by omega), nI_pos (n := tl) (by omega), c74, (i_lt c74), ← hx94, k94_1, k94_2]
      by_cases k94_3 : x94 = 3
      · refine E_tswI (tgt := 132) dX12_speaks_94 2 (by rw [k94_3]; decide) (by decide) rfl (by decide) ?_
        refine E_ic (v := 2) dX12_speaks_132 (by decide) ?_
        refine E_iload dX12_speaks_133 rfl ?_
        refine E_imul dX12_speaks_135 ?_
        refine E_iret dX12_speaks_136 rfl rfl ?_
        refine q_eq (hq _ (h61) (((((MF.rf).tr MF.w3).tr MF.w3).tr MF.w3).tr f61)) ?_
        simp [spV, spF, plF, kdF, tmF, hlt, nI_clamp (n := tl) (by omega), nI_pos (n := tl) (by omega), c74, (i_lt c74), ← hx94, k94_1, k94_2, k94_3]
      by_cases k94_4 : x94 = 4
      · refine E_tswI (tgt := 137) dX12_speaks_94 3 (by rw [k94_4]; decide) (by decide) rfl (by decide) ?_
        refine E_ic (v := 0) dX12_speaks_137 (by decide) ?_
        refine E_iret dX12_speaks_138 rfl rfl ?_
        refine q_eq (hq _ (h61) (((((MF.rf).tr MF.w3).tr MF.w3).tr MF.w3).tr f61)) ?_
        simp [spV, spF, plF, kdF, tmF, hlt, nI_clamp (n := tl) (by omega), nI_pos (n := tl) (by omega), c74, (i_lt c74), ← hx94, k94_1, k94_2, k94_3, k94_4]
      refine E_tswO (tgt := 139) dX12_speaks_94 (by have := ne_toInt (k := 1) (by decide) k94_1; have := ne_toInt (k := 2) (by decide) k94_2; have := ne_toInt (k := 3) (by decide) k94_3; have := ne_toInt (k := 4) (by decide) k94_4; omega) (by decide) ?_
      refine E_iload dX12_speaks_139 rfl ?_
      refine E_iret dX12_speaks_141 rfl rfl ?_
      refine q_eq (hq _ (h61) (((((MF.rf).tr MF.w3).tr MF.w3).tr MF.w3).tr f61)) ?_
      simp [spV, spF, plF, kdF, tmF, hlt, nI_clamp (n := tl) (by omega), nI_pos (n := tl) (by omega), c74, (i_lt c74), ← hx94, k94_1, k94_2, k94_3, k94_4]
    · refine E_iload dX12_speaks_77 rfl ?_
      refine E_ic (v := 2) dX12_speaks_79 (by decide) ?_
      refine E_iadd dX12_speaks_80 ?_
      refine E_goto dX12_speaks_81 ?_
      refine E_istore dX12_speaks_86 (by decide) ?_
      refine E_aload_n dX12_speaks_88 rfl ?_
      refine E_iload_n dX12_speaks_89 rfl ?_
      refine E_ic (v := 0) dX12_speaks_90 (by decide) ?_
      refine E_V2i vX12_85_12 dX12_speaks_91 (Nat.le_of_ble_eq_true rfl) (by decide) (sh_159 _) (s_X12_of h61 p (0) (15 + 9 * p) hp rfl (by omega) (by omega) ?_)
      refine E_top (fun x94 hx94 => ?_)
      by_cases k94_1 : x94 = 1
      · refine E_tswI (tgt := 124) dX12_speaks_94 0 (by rw [k94_1]; decide) (by decide) rfl (by decide) ?_
        refine E_iload dX12_speaks_124 rfl ?_
        refine E_iret dX12_speaks_126 rfl rfl ?_
        refine q_eq (hq _ (h61) (((((MF.rf).tr MF.w3).tr MF.w3).tr MF.w3).tr f61)) ?_
        simp [spV, spF, plF, kdF, tmF, hlt, nI_clamp (n := tl) (by omega), nI_pos (n := tl) (by omega), c74, (i_nle c74), ← hx94, k94_1]
      by_cases k94_2 : x94 = 2
      · refine E_tswI (tgt := 127) dX12_speaks_94 1 (by rw [k94_2]; decide) (by decide) rfl (by decide) ?_
        refine E_iload dX12_speaks_127 rfl ?_
        refine E_ic (v := 3) dX12_speaks_129 (by decide) ?_
        refine E_iadd dX12_speaks_130 ?_
        refine E_iret dX12_speaks_131 rfl rfl ?_
        refine q_eq (hq _ (h61) (((((MF.rf).tr MF.w3).tr MF.w3).tr MF.w3).tr f61)) ?_
        simp [spV, spF, plF, kdF, tmF, hlt, nI_clamp (n := tl) (by omega), nI_pos (n := tl) (by omega), c74, (i_nle c74), ← hx94, k94_1, k94_2]
      by_cases k94_3 : x94 = 3
      · refine E_tswI (tgt := 132) dX12_speaks_94 2 (by rw [k94_3]; decide) (by decide) rfl (by decide) ?_
        refine E_ic (v := 2) dX12_speaks_132 (by decide) ?_
        refine E_iload dX12_speaks_133 rfl ?_
        refine E_imul dX12_speaks_135 ?_
        refine E_iret dX12_speaks_136 rfl rfl ?_
        refine q_eq (hq _ (h61) (((((MF.rf).tr MF.w3).tr MF.w3).tr MF.w3).tr f61)) ?_
        simp [spV, spF, plF, kdF, tmF, hlt, nI_clamp (n := tl) (by omega), nI_pos (n := tl) (by omega), c74, (i_nle c74), ← hx94, k94_1, k94_2, k94_3]
      by_cases k94_4 : x94 = 4
      · refine E_tswI (tgt := 137) dX12_speaks_94 3 (by rw [k94_4]; decide) (by decide) rfl (by decide) ?_
        refine E_ic (v := 0) dX12_speaks_137 (by decide) ?_
        refine E_iret dX12_speaks_138 rfl rfl ?_
        refine q_eq (hq _ (h61) (((((MF.rf).tr MF.w3).tr MF.w3).tr MF.w3).tr f61)) ?_
        simp [spV, spF, plF, kdF, tmF, hlt, nI_clamp (n := tl) (by omega), nI_pos (n := tl) (by omega), c74, (i_nle c74), ← hx94, k94_1, k94_2, k94_3, k94_4]
      refine E_tswO (tgt := 139) dX12_speaks_94 (by have := ne_toInt (k := 1) (by decide) k94_1; have := ne_toInt (k := 2) (by decide) k94_2; have := ne_toInt (k := 3) (by decide) k94_3; have := ne_toInt (k := 4) (by decide) k94_4; omega) (by decide) ?_
      refine E_iload dX12_speaks_139 rfl ?_
      refine E_iret dX12_speaks_141 rfl rfl ?_
      refine q_eq (hq _ (h61) (((((MF.rf).tr MF.w3).tr MF.w3).tr MF.w3).tr f61)) ?_
      simp [spV, spF, plF, kdF, tmF, hlt, nI_clamp (n := tl) (by omega), nI_pos (n := tl) (by omega), c74, (i_nle c74), ← hx94, k94_1, k94_2, k94_3, k94_4]
  · refine E_iload dX12_speaks_53 rfl ?_
    refine E_goto dX12_speaks_55 ?_
    refine E_istore dX12_speaks_70 (by decide) ?_
    refine E_iload dX12_speaks_72 rfl ?_
    refine E_if_le dX12_speaks_74 (fun c74 => ?_) (fun c74 => ?_)
    · refine E_iload dX12_speaks_84 rfl ?_
      refine E_istore dX12_speaks_86 (by decide) ?_
      refine E_aload_n dX12_speaks_88 rfl ?_
      refine E_iload_n dX12_speaks_89 rfl ?_
      refine E_ic (v := 0) dX12_speaks_90 (by decide) ?_
      refine E_V2i vX12_85_12 dX12_speaks_91 (Nat.le_of_ble_eq_true rfl) (by decide) (sh_159 _) (s_X12_of ((wr_ne (by decide)).trans ((wr_ne (by decide)).trans ((wr_ne (by decide)).trans hv))) p (0) (15 + 9 * p) hp rfl (by omega) (by omega) ?_)
      refine E_top (fun x94 hx94 => ?_)
      by_cases k94_1 : x94 = 1
      · refine E_tswI (tgt := 124) dX12_speaks_94 0 (by rw [k94_1]; decide) (by decide) rfl (by decide) ?_
        refine E_iload dX12_speaks_124 rfl ?_
        refine E_iret dX12_speaks_126 rfl rfl ?_
        refine q_eq (hq _ (((wr_ne (by decide)).trans ((wr_ne (by decide)).trans ((wr_ne (by decide)).trans hv)))) ((((MF.rf).tr MF.w3).tr MF.w3).tr MF.w3)) ?_
        simp [spV, spF, plF, kdF, tmF, c50, i_nle c50, c74, (i_lt c74), ← hx94, k94_1]
      by_cases k94_2 : x94 = 2
      · refine E_tswI (tgt := 127) dX12_speaks_94 1 (by rw [k94_2]; decide) (by decide) rfl (by decide) ?_
        refine E_iload dX12_speaks_127 rfl ?_
        refine E_ic (v := 3) dX12_speaks_129 (by decide) ?_
        refine E_iadd dX12_speaks_130 ?_
        refine E_iret dX12_speaks_131 rfl rfl ?_
        refine q_eq (hq _ (((wr_ne (by decide)).trans ((wr_ne (by decide)).trans ((wr_ne (by decide)).trans hv)))) ((((MF.rf).tr MF.w3).tr MF.w3).tr MF.w3)) ?_
        simp [spV, spF, plF, kdF, tmF, c50, i_nle c50, c74, (i_lt c74), ← hx94, k94_1, k94_2]
      by_cases k94_3 : x94 = 3
      · refine E_tswI (tgt := 132) dX12_speaks_94 2 (by rw [k94_3]; decide) (by decide) rfl (by decide) ?_
        refine E_ic (v := 2) dX12_speaks_132 (by decide) ?_
        refine E_iload dX12_speaks_133 rfl ?_
        refine E_imul dX12_speaks_135 ?_
        refine E_iret dX12_speaks_136 rfl rfl ?_
        refine q_eq (hq _ (((wr_ne (by decide)).trans ((wr_ne (by decide)).trans ((wr_ne (by decide)).trans hv)))) ((((MF.rf).tr MF.w3).tr MF.w3).tr MF.w3)) ?_
        simp [spV, spF, plF, kdF, tmF, c50, i_nle c50, c74, (i_lt c74), ← hx94, k94_1, k94_2, k94_3]
      by_cases k94_4 : x94 = 4
      · refine E_tswI (tgt := 137) dX12_speaks_94 3 (by rw [k94_4]; decide) (by decide) rfl (by decide) ?_
        refine E_ic (v := 0) dX12_speaks_137 (by decide) ?_
        refine E_iret dX12_speaks_138 rfl rfl ?_
        refine q_eq (hq _ (((wr_ne (by decide)).trans ((wr_ne (by decide)).trans ((wr_ne (by decide)).trans hv)))) ((((MF.rf).tr MF.w3).tr MF.w3).tr MF.w3)) ?_
        simp [spV, spF, plF, kdF, tmF, c50, i_nle c50, c74, (i_lt c74), ← hx94, k94_1, k94_2, k94_3, k94_4]
      refine E_tswO (tgt := 139) dX12_speaks_94 (by have := ne_toInt (k := 1) (by decide) k94_1; have := ne_toInt (k := 2) (by decide) k94_2; have := ne_toInt (k := 3) (by decide) k94_3; have := ne_toInt (k := 4) (by decide) k94_4; omega) (by decide) ?_
      refine E_iload dX12_speaks_139 rfl ?_
      refine E_iret dX12_speaks_141 rfl rfl ?_
      refine q_eq (hq _ (((wr_ne (by decide)).trans ((wr_ne (by decide)).trans ((wr_ne (by decide)).trans hv)))) ((((MF.rf).tr MF.w3).tr MF.w3).tr MF.w3)) ?_
      simp [spV, spF, plF, kdF, tmF, c50, i_nle c50, c74, (i_lt c74), ← hx94, k94_1, k94_2, k94_3, k94_4]
    · refine E_iload dX12_speaks_77 rfl ?_
      refine E_ic (v := 2) dX12_speaks_79 (by decide) ?_
      refine E_iadd dX12_speaks_80 ?_
      refine E_goto dX12_speaks_81 ?_
      refine E_istore dX12_speaks_86 (by decide) ?_
      refine E_aload_n dX12_speaks_88 rfl ?_
      refine E_iload_n dX12_speaks_89 rfl ?_
      refine E_ic (v := 0) dX12_speaks_90 (by decide) ?_
      refine E_V2i vX12_85_12 dX12_speaks_91 (Nat.le_of_ble_eq_true rfl) (by decide) (sh_159 _) (s_X12_of ((wr_ne (by decide)).trans ((wr_ne (by decide)).trans ((wr_ne (by decide)).trans hv))) p (0) (15 + 9 * p) hp rfl (by omega) (by omega) ?_)
      refine E_top (fun x94 hx94 => ?_)
      by_cases k94_1 : x94 = 1
      · refine E_tswI (tgt := 124) dX12_speaks_94 0 (by rw [k94_1]; decide) (by decide) rfl (by decide) ?_
        refine E_iload dX12_speaks_124 rfl ?_
        refine E_iret dX12_speaks_126 rfl rfl ?_
        refine q_eq (hq _ (((wr_ne (by decide)).trans ((wr_ne (by decide)).trans ((wr_ne (by decide)).trans hv)))) ((((MF.rf).tr MF.w3).tr MF.w3).tr MF.w3)) ?_
        simp [spV, spF, plF, kdF, tmF, c50, i_nle c50, c74, (i_nle c74), ← hx94, k94_1]
      by_cases k94_2 : x94 = 2
      · refine E_tswI (tgt := 127) dX12_speaks_94 1 (by rw [k94_2]; decide) (by decide) rfl (by decide) ?_
        refine E_iload dX12_speaks_127 rfl ?_
        refine E_ic (v := 3) dX12_speaks_129 (by decide) ?_
        refine E_iadd dX12_speaks_130 ?_
        refine E_iret dX12_speaks_131 rfl rfl ?_
        refine q_eq (hq _ (((wr_ne (by decide)).trans ((wr_ne (by decide)).trans ((wr_ne (by decide)).trans hv)))) ((((MF.rf).tr MF.w3).tr MF.w3).tr MF.w3)) ?_
        simp [spV, spF, plF, kdF, tmF, c50, i_nle c50, c74, (i_nle c74), ← hx94, k94_1, k94_2]
      by_cases k94_3 : x94 = 3
      · refine E_tswI (tgt := 132) dX12_speaks_94 2 (by rw [k94_3]; decide) (by decide) rfl (by decide) ?_
        refine E_ic (v := 2) dX12_speaks_132 (by decide) ?_
        refine E_iload dX12_speaks_133 rfl ?_
        refine E_imul dX12_speaks_135 ?_
        refine E_iret dX12_speaks_136 rfl rfl ?_
        refine q_eq (hq _ (((wr_ne (by decide)).trans ((wr_ne (by decide)).trans ((wr_ne (by decide)).trans hv)))) ((((MF.rf).tr MF.w3).tr MF.w3).tr MF.w3)) ?_
        simp [spV, spF, plF, kdF, tmF, c50, i_nle c50, c74, (i_nle c74), ← hx94, k94_1, k94_2, k94_3]
      by_cases k94_4 : x94 = 4
      · refine E_tswI (tgt := 137) dX12_speaks_94 3 (by rw [k94_4]; decide) (by decide) rfl (by decide) ?_
        refine E_ic (v := 0) dX12_speaks_137 (by decide) ?_
        refine E_iret dX12_speaks_138 rfl rfl ?_
        refine q_eq (hq _ (((wr_ne (by decide)).trans ((wr_ne (by decide)).trans ((wr_ne (by decide)).trans hv)))) ((((MF.rf).tr MF.w3).tr MF.w3).tr MF.w3)) ?_
        simp [spV, spF, plF, kdF, tmF, c50, i_nle c50, c74, (i_nle c74), ← hx94, k94_1, k94_2, k94_3, k94_4]
      refine E_tswO (tgt := 139) dX12_speaks_94 (by have := ne_toInt (k := 1) (by decide) k94_1; have := ne_toInt (k := 2) (by decide) k94_2; have := ne_toInt (k := 3) (by decide) k94_3; have := ne_toInt (k := 4) (by decide) k94_4; omega) (by decide) ?_
      refine E_iload dX12_speaks_139 rfl ?_
      refine E_iret dX12_speaks_141 rfl rfl ?_
      refine q_eq (hq _ (((wr_ne (by decide)).trans ((wr_ne (by decide)).trans ((wr_ne (by decide)).trans hv)))) ((((MF.rf).tr MF.w3).tr MF.w3).tr MF.w3)) ?_
      simp [spV, spF, plF, kdF, tmF, c50, i_nle c50, c74, (i_nle c74), ← hx94, k94_1, k94_2, k94_3, k94_4]
theorem s_X12_nextAt {Q : Int32 → HP → Prop} (hv : S 160 = v) {x b : Int32} {m : Nat} (hm : v 1 = nI m) (hm9 : m ≤ 9) (a : Nat) (hx : x = nI a) (ha : a ≤ m) (hq : Q (oI (nxA v b a)) (lay Θ S)) : C Θ (d + 1) 0 0 yX12_nextAt cX12_nextAt 4 (some .int) [.ref (tb Θ + 159), .int b, .int x] 183 (lay Θ S) (Qi Q) := by
  refine C_of rfl rfl (Nat.le_of_ble_eq_true rfl) ?_
  refine E_iload_n dX12_nextAt_0 rfl ?_
  refine E_istore_n dX12_nextAt_1 (by decide) ?_
  subst hx
  exact E.loc (by exact ⟨rfl, rfl, rfl, rfl, trivial⟩) (l_X12_nextAt hv hm hm9 (m - a) a (by omega) (by rw [nxA, mN, hm, nI_clamp (by omega)] at hq; exact hq))
theorem s_X12_waits {Q : HP → Prop} (hv : S 160 = v) {m : Nat} (hm : v 1 = nI m) (hm9 : m ≤ 9) (hq : ∀ S', S' 160 = waV v → MF S S' → Q (lay Θ S')) : C Θ (d + 2) 0 0 yX12_waits cX12_waits 3 none [.ref (tb Θ + 159)] 183 (lay Θ S) (Qv Q) := by
  refine C_of rfl rfl (Nat.le_of_ble_eq_true rfl) ?_
  refine E_aload_n dX12_waits_0 rfl ?_
  refine E_aload_n dX12_waits_1 rfl ?_
  refine L_get fX12_9 dX12_waits_2 (by decide) sh_159 rfl ?_
  refine E_ic (v := 5) dX12_waits_5 (by decide) ?_
  refine N_iald (j := 5) dX12_waits_6 rfl (by decide) hv ?_
  refine E_ic (v := 0) dX12_waits_7 (by decide) ?_
  refine E_V2i vX12_149_12 dX12_waits_8 (Nat.le_of_ble_eq_true rfl) (by decide) (sh_159 _) (s_X12_nextAt hv hm hm9 0 rfl (Nat.zero_le _) ?_)
  rcases hr8 : nxA v (v 5) 0 with _ | p
  · refine E_eq (z := -1) rfl ?_
    refine E_istore_n dX12_waits_11 (by decide) ?_
    refine E_iload_n dX12_waits_12 rfl ?_
    refine E_if_ge dX12_waits_13 (fun c => absurd c (by decide)) (fun _ => ?_)
    refine E_ic (v := (-1)) dX12_waits_16 (by decide) ?_
    refine E_goto dX12_waits_17 ?_
    refine E_istore_n dX12_waits_33 (by decide) ?_
    refine E_iload_n dX12_waits_34 rfl ?_
    refine E_if_ge dX12_waits_35 (fun c => absurd c (by decide)) (fun _ => ?_)
    refine E_aload_n dX12_waits_38 rfl ?_
    refine L_get fX12_9 dX12_waits_39 (by decide) sh_159 rfl ?_
    refine E_bipush (v := 13) dX12_waits_42 (by decide) ?_
    refine E_dup2 dX12_waits_44 rfl rfl ?_
    refine N_iald (j := 13) dX12_waits_45 rfl (by decide) hv ?_
    refine E_ic (v := 1) dX12_waits_46 (by decide) ?_
    refine E_iadd dX12_waits_47 ?_
    refine N_iast (j := 13) dX12_waits_48 rfl (by decide) hv (fun S48 h48 f48 => ?_)
    refine E_aload_n dX12_waits_49 rfl ?_
    refine L_get fX12_9 dX12_waits_50 (by decide) sh_159 rfl ?_
    refine E_ic (v := 5) dX12_waits_53 (by decide) ?_
    refine E_ic (v := 1) dX12_waits_54 (by decide) ?_
    refine E_aload_n dX12_waits_55 rfl ?_
    refine L_get fX12_9 dX12_waits_56 (by decide) sh_159 rfl ?_
    refine E_ic (v := 5) dX12_waits_59 (by decide) ?_
    refine N_iald (j := 5) dX12_waits_60 rfl (by decide) h48 ?_
    refine E_isub dX12_waits_61 ?_
    refine N_iast (j := 5) dX12_waits_62 rfl (by decide) h48 (fun S62 h62 f62 => ?_)
    refine E_goto dX12_waits_63 ?_
    refine E_vret dX12_waits_86 rfl rfl ?_
    exact hq _ (h62.trans (by simp only [waV, hr8]; rw [idV]; rfl)) (((MF.rf).tr f48).tr f62)
  · have hp := nxA_lt hr8
    have hmm : mN v = m := by rw [mN, hm, nI_clamp (by omega)]
    refine E_eq (z := nI p) rfl ?_
    refine E_istore_n dX12_waits_11 (by decide) ?_
    refine E_iload_n dX12_waits_12 rfl ?_
    refine E_if_ge dX12_waits_13 (fun _ => ?_) (fun c => absurd (nI_pos' (by omega)) c)
    refine E_aload_n dX12_waits_20 rfl ?_
    refine E_aload_n dX12_waits_21 rfl ?_
    refine L_get fX12_9 dX12_waits_22 (by decide) sh_159 rfl ?_
    refine E_ic (v := 5) dX12_waits_25 (by decide) ?_
    refine N_iald (j := 5) dX12_waits_26 rfl (by decide) hv ?_
    refine E_iload_n dX12_waits_27 rfl ?_
    refine E_ic (v := 1) dX12_waits_28 (by decide) ?_
    refine E_iadd dX12_waits_29 ?_
    refine E_V2i vX12_149_12 dX12_waits_30 (Nat.le_of_ble_eq_true rfl) (by decide) (sh_159 _) (s_X12_nextAt hv hm hm9 (p + 1) (nI_1 p) (by omega) ?_)
    rcases hr30 : nxA v (v 5) (p + 1) with _ | o
    · refine E_eq (z := -1) rfl ?_
      refine E_istore_n dX12_waits_33 (by decide) ?_
      refine E_iload_n dX12_waits_34 rfl ?_
      refine E_if_ge dX12_waits_35 (fun c => absurd c (by decide)) (fun _ => ?_)
      refine E_aload_n dX12_waits_38 rfl ?_
      refine L_get fX12_9 dX12_waits_39 (by decide) sh_159 rfl ?_
      refine E_bipush (v := 13) dX12_waits_42 (by decide) ?_
      refine E_dup2 dX12_waits_44 rfl rfl ?_
      refine N_iald (j := 13) dX12_waits_45 rfl (by decide) hv ?_
      refine E_ic (v := 1) dX12_waits_46 (by decide) ?_
      refine E_iadd dX12_waits_47 ?_
      refine N_iast (j := 13) dX12_waits_48 rfl (by decide) hv (fun S48 h48 f48 => ?_)
      refine E_aload_n dX12_waits_49 rfl ?_
      refine L_get fX12_9 dX12_waits_50 (by decide) sh_159 rfl ?_
      refine E_ic (v := 5) dX12_waits_53 (by decide) ?_
      refine E_ic (v := 1) dX12_waits_54 (by decide) ?_
      refine E_aload_n dX12_waits_55 rfl ?_
      refine L_get fX12_9 dX12_waits_56 (by decide) sh_159 rfl ?_
      refine E_ic (v := 5) dX12_waits_59 (by decide) ?_
      refine N_iald (j := 5) dX12_waits_60 rfl (by decide) h48 ?_
      refine E_isub dX12_waits_61 ?_
      refine N_iast (j := 5) dX12_waits_62 rfl (by decide) h48 (fun S62 h62 f62 => ?_)
      refine E_goto dX12_waits_63 ?_
      refine E_vret dX12_waits_86 rfl rfl ?_
      exact hq _ (h62.trans (by simp only [waV, hr8, hr30]; rw [idV]; rfl)) (((MF.rf).tr f48).tr f62)
    · have ho := nxA_lt hr30
      refine E_eq (z := nI o) rfl ?_
      refine E_istore_n dX12_waits_33 (by decide) ?_
      refine E_iload_n dX12_waits_34 rfl ?_
      refine E_if_ge dX12_waits_35 (fun _ => ?_) (fun c => absurd (nI_pos' (by omega)) c)
      refine E_aload_n dX12_waits_66 rfl ?_
      refine E_iload_n dX12_waits_67 rfl ?_
      refine E_iload_n dX12_waits_68 rfl ?_
      refine E_V2v vX12_152_12 dX12_waits_69 (Nat.le_of_ble_eq_true rfl) (by decide) (sh_159 _) (s_X12_goAboard hv p o (by omega) (by omega) (fun S69 h69 f69 => ?_))
      refine E_aload_n dX12_waits_72 rfl ?_
      refine L_get fX12_9 dX12_waits_73 (by decide) sh_159 rfl ?_
      refine E_bipush (v := 9) dX12_waits_76 (by decide) ?_
      refine E_aload_n dX12_waits_78 rfl ?_
      refine E_V0i vX12_132_12 dX12_waits_79 (Nat.le_of_ble_eq_true rfl) (by decide) (sh_159 _) (s_X12_draw h69 (fun S79 h79 f79 => ?_))
      refine E_bipush (v := 6) dX12_waits_82 (by decide) ?_
      refine E_irem dX12_waits_84 (by decide) ?_
      refine N_iast (j := 9) dX12_waits_85 rfl (by decide) h79 (fun S85 h85 f85 => ?_)
      refine E_vret dX12_waits_86 rfl rfl ?_
      exact hq _ (h85.trans (by simp only [waV, hr8, hr30]; rfl)) ((((MF.rf).tr f69).tr f79).tr f85)
end Ref4
