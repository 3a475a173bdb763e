/-! the reference: a text worked out; minutes -/
theorem len1 {α : Type} {L : List α} {q : Nat} (h : L.length = q) (hq : 1 ≤ q) : ∃ x r, L = x :: r := by
  cases L with
  | nil => simp at h; omega
  | cons x r => exact ⟨x, r, rfl⟩
theorem len2 {α : Type} {L : List α} {q : Nat} (h : L.length = q) (hq : 2 ≤ q) : ∃ x y r, L = x :: y :: r := by
  obtain ⟨x, r, rfl⟩ := len1 h (by omega)
  obtain ⟨y, r, rfl⟩ := len1 (L := r) (q := q - 1) (by simp at h; omega) (by omega)
  exact ⟨x, y, r, rfl⟩

theorem ln_eq {v : WV} {t : Nat} (ok : txOk v t) : v (96 + 2 * t) - v (96 + 2 * t) / 1000 * 1000 = nI (lnF v t) := by
  have h := ok.2.2.2.2
  have e : v (96 + 2 * t) - v (96 + 2 * t) / 1000 * 1000 = v (96 + 2 * t) / 1000 * 1000 + nI (lnF v t) - v (96 + 2 * t) / 1000 * 1000 := by rw [← h]
  rw [e, Int32.add_comm, Int32.add_sub_cancel]
section Ref3
variable {Θ : Th} {d : Nat} {S : SS} {v : WV}
theorem l_X12_worksOut {Q : Int32 → HP → Prop} {t : Nat} {fa : Nat → Int32} (ht : t < 14) (ok : txOk v t) : ∀ (f k : Nat) (S : SS) (x2 x4 : Int32), x2 = nI (evL fa (cdF v t) k).length → x4 = nI k → k + f = lnF v t → S 160 = v → S 173 = fa → stkOk (S 172) (evL fa (cdF v t) k) → (∀ S', S' 160 = v → MF S S' → Q (evF v t fa) (lay Θ S')) → E Θ (d + 1) 0 0 yX12_worksOut cX12_worksOut 6 (some .int) 0 0 183 (lay Θ S) 21 [(4, .int x4), (3, .int (nI (lnF v t))), (2, .int x2), (1, .int (nI t)), (0, .ref (tb Θ + 159))] [] (Qi Q) := by
  intro f
  have hkl : lnF v t ≤ 96 := ok.2.1
  induction f with
  | zero =>
    intro k S x2 x4 hx2 hx4 hkf hv hfa hst hq
    refine E_iload dX12_worksOut_21 rfl ?_
    refine E_iload_n dX12_worksOut_23 rfl ?_
    refine E_icmp_ge dX12_worksOut_24 (fun _ => ?_) (fun c => absurd (by rw [hx4]; exact nI_le (by omega) (by omega)) c)
    refine E_aload_n dX12_worksOut_155 rfl ?_
    refine L_get fX12_48 dX12_worksOut_156 (by decide) sh_159 rfl ?_
    refine E_ic (v := 0) dX12_worksOut_159 (by decide) ?_
    refine L_iald (j := 0) dX12_worksOut_160 (by decide) sh_172 rfl (by decide) (by decide) ?_
    refine E_iret dX12_worksOut_161 rfl rfl ?_
    have hk9 : k = lnF v t := by omega
    rw [hk9] at hst
    obtain ⟨x, r, hL⟩ := len1 (dp_len (fa := fa) _ _ ok.2.2.1) (Nat.le_refl 1)
    have hl1 := dp_len (fa := fa) _ _ ok.2.2.1
    rw [hL] at hst hl1
    have hr0 : r.length = 0 := by simpa using hl1
    have h0 := hst.1
    rw [hr0] at h0
    have he : evF v t fa = S 172 0 := by rw [evF, hL, h0]; rfl
    rw [← he]
    exact hq S hv MF.rf
  | succ f ih =>
    intro k S x2 x4 hx2 hx4 hkf hv hfa hst hq
    obtain ⟨q, hdp, hq47⟩ := ok.2.2.2.1 k (by omega)
    obtain ⟨q', hdp', hq47'⟩ := ok.2.2.2.1 (k + 1) (by omega)
    have hlen := dp_len (fa := fa) k q hdp
    refine E_iload dX12_worksOut_21 rfl ?_
    refine E_iload_n dX12_worksOut_23 rfl ?_
    refine E_icmp_ge dX12_worksOut_24 (fun c => absurd c (fun c => absurd ((nI_leI (by omega) (by omega)).mp (hx4 ▸ c)) (by omega))) (fun _ => ?_)
    refine E_aload_n dX12_worksOut_27 rfl ?_
    refine L_get fX12_9 dX12_worksOut_28 (by decide) sh_159 rfl ?_
    refine E_bipush (v := 124) dX12_worksOut_31 (by decide) ?_
    refine E_bipush (v := 96) dX12_worksOut_33 (by decide) ?_
    refine E_iload_n dX12_worksOut_35 rfl ?_
    refine E_imul dX12_worksOut_36 ?_
    refine E_iadd dX12_worksOut_37 ?_
    refine E_iload dX12_worksOut_38 rfl ?_
    refine E_iadd dX12_worksOut_40 ?_
    refine N_iald (j := 124 + 96 * t + k) dX12_worksOut_41 (by rw [hx4]; exact cdI t k) (by omega) hv ?_
    refine E_eq (z := cdF v t k) rfl ?_
    refine E_istore dX12_worksOut_42 (by decide) ?_
    rcases dp_next hdp hdp' with ⟨ca, cb⟩ | ⟨ca, cb⟩ | ⟨ca, cd0, cb, cc0⟩
    · by_cases c59 : cdF v t k < 10000
      · refine E_iload dX12_worksOut_44 rfl ?_
        refine E_if_lt dX12_worksOut_46 (fun c => absurd c (i_lt ca)) (fun _ => ?_)
        refine E_aload_n dX12_worksOut_49 rfl ?_
        refine L_get fX12_48 dX12_worksOut_50 (by decide) sh_159 rfl ?_
        refine E_iload_n dX12_worksOut_53 rfl ?_
        refine E_iload dX12_worksOut_54 rfl ?_
        refine E_sipush (v := 10000) dX12_worksOut_56 (by decide) ?_
        refine E_icmp_ge dX12_worksOut_59 (fun c => absurd c (i_le c59)) (fun _ => ?_)
        refine E_iload dX12_worksOut_62 rfl ?_
        refine E_goto dX12_worksOut_64 ?_
        refine L_iast (j := (evL fa (cdF v t) k).length) dX12_worksOut_78 (by decide) sh_172 hx2 (by omega) (by decide) ?_
        refine E_iinc (v := 1) dX12_worksOut_79 rfl (by decide) (by decide) ?_
        refine E_goto dX12_worksOut_82 ?_
        refine E_iinc (v := 1) dX12_worksOut_149 rfl (by decide) (by decide) ?_
        refine E_goto dX12_worksOut_152 ?_
        have ev : evL fa (cdF v t) (k + 1) = cdF v t k :: evL fa (cdF v t) k := by rw [evL, evS.eq_def, if_pos ca, if_pos c59]
        exact E.loc (by exact ⟨rfl, rfl, rfl, rfl, rfl, trivial⟩) (ih (k + 1) _ _ _ (by rw [hx2, nI_1, ev]; rfl) (by rw [hx4, nI_1]) (by omega) (by rw [wr_ne (by decide)]; exact hv) (by rw [wr_ne (by decide)]; exact hfa) (by rw [ev, wr_at]; exact stk_push hst) (fun S9 a9 b9 => hq S9 a9 (MF.w2.tr b9)))
      · obtain ⟨i3, hi3l, hi3, hi3c⟩ := nmI (i_nlt c59) cb
        refine E_iload dX12_worksOut_44 rfl ?_
        refine E_if_lt dX12_worksOut_46 (fun c => absurd c (i_lt ca)) (fun _ => ?_)
        refine E_aload_n dX12_worksOut_49 rfl ?_
        refine L_get fX12_48 dX12_worksOut_50 (by decide) sh_159 rfl ?_
        refine E_iload_n dX12_worksOut_53 rfl ?_
        refine E_iload dX12_worksOut_54 rfl ?_
        refine E_sipush (v := 10000) dX12_worksOut_56 (by decide) ?_
        refine E_icmp_ge dX12_worksOut_59 (fun _ => ?_) (fun c => absurd (i_nlt c59) c)
        refine E_aload_n dX12_worksOut_67 rfl ?_
        refine L_get fX12_51 dX12_worksOut_68 (by decide) sh_159 rfl ?_
        refine E_iload dX12_worksOut_71 rfl ?_
        refine E_sipush (v := 10000) dX12_worksOut_73 (by decide) ?_
        refine E_isub dX12_worksOut_76 ?_
        refine L_iald (j := i3) dX12_worksOut_77 (by decide) sh_173 hi3 (by omega) (by decide) ?_
        refine L_iast (j := (evL fa (cdF v t) k).length) dX12_worksOut_78 (by decide) sh_172 hx2 (by omega) (by decide) ?_
        refine E_iinc (v := 1) dX12_worksOut_79 rfl (by decide) (by decide) ?_
        refine E_goto dX12_worksOut_82 ?_
        refine E_iinc (v := 1) dX12_worksOut_149 rfl (by decide) (by decide) ?_
        refine E_goto dX12_worksOut_152 ?_
        have ev : evL fa (cdF v t) (k + 1) = fa i3 :: evL fa (cdF v t) k := by rw [evL, evS.eq_def, if_pos ca, if_neg c59, hi3c]
        exact E.loc (by exact ⟨rfl, rfl, rfl, rfl, rfl, trivial⟩) (ih (k + 1) _ _ _ (by rw [hx2, nI_1, ev]; rfl) (by rw [hx4, nI_1]) (by omega) (by rw [wr_ne (by decide)]; exact hv) (by rw [wr_ne (by decide)]; exact hfa) (by rw [ev, wr_at, hfa]; exact stk_push hst) (fun S9 a9 b9 => hq S9 a9 (MF.w2.tr b9)))
    · obtain ⟨x, r, hL⟩ := len1 hlen cb
      rw [hL] at hx2 hst hlen
      simp only [List.length_cons] at hx2 hlen
      have hr : x2 - 1 = nI r.length := by rw [hx2, nI_pred]
      refine E_iload dX12_worksOut_44 rfl ?_
      refine E_if_lt dX12_worksOut_46 (fun _ => ?_) (fun c => absurd (by rw [ca]; decide) c)
      refine E_iload dX12_worksOut_85 rfl ?_
      refine E_bipush (v := (-10)) dX12_worksOut_87 (by decide) ?_
      refine E_icmp_ne dX12_worksOut_89 (fun c => absurd ca c) (fun _ => ?_)
      refine E_aload_n dX12_worksOut_92 rfl ?_
      refine L_get fX12_48 dX12_worksOut_93 (by decide) sh_159 rfl ?_
      refine E_iload_n dX12_worksOut_96 rfl ?_
      refine E_ic (v := 1) dX12_worksOut_97 (by decide) ?_
      refine E_isub dX12_worksOut_98 ?_
      refine E_aload_n dX12_worksOut_99 rfl ?_
      refine L_get fX12_48 dX12_worksOut_100 (by decide) sh_159 rfl ?_
      refine E_iload_n dX12_worksOut_103 rfl ?_
      refine E_ic (v := 1) dX12_worksOut_104 (by decide) ?_
      refine E_isub dX12_worksOut_105 ?_
      refine L_iald (j := r.length) dX12_worksOut_106 (by decide) sh_172 hr (by omega) (by decide) ?_
      refine E_if_ne dX12_worksOut_107 (fun c107 => ?_) (fun c107 => ?_)
      · refine E_ic (v := 0) dX12_worksOut_114 (by decide) ?_
        refine L_iast (j := r.length) dX12_worksOut_115 (by decide) sh_172 hr (by omega) (by decide) ?_
        refine E_goto dX12_worksOut_116 ?_
        refine E_iinc (v := 1) dX12_worksOut_149 rfl (by decide) (by decide) ?_
        refine E_goto dX12_worksOut_152 ?_
        have ev : evL fa (cdF v t) (k + 1) = (if x = 0 then 1 else 0) :: r := by rw [evL, evS.eq_def, if_neg (by rw [ca]; decide), if_pos ca, hL]
        exact E.loc (by exact ⟨rfl, rfl, rfl, rfl, rfl, trivial⟩) (ih (k + 1) _ _ _ (by rw [hx2, ev]; rfl) (by rw [hx4, nI_1]) (by omega) (by rw [wr_ne (by decide)]; exact hv) (by rw [wr_ne (by decide)]; exact hfa) (by rw [ev, wr_at]; rw [hst.1] at c107; exact ⟨by rw [pk_us]; simp [c107], stk_upd (Nat.le_refl _) hst.2⟩) (fun S9 a9 b9 => hq S9 a9 (MF.w2.tr b9)))
      · refine E_ic (v := 1) dX12_worksOut_110 (by decide) ?_
        refine E_goto dX12_worksOut_111 ?_
        refine L_iast (j := r.length) dX12_worksOut_115 (by decide) sh_172 hr (by omega) (by decide) ?_
        refine E_goto dX12_worksOut_116 ?_
        refine E_iinc (v := 1) dX12_worksOut_149 rfl (by decide) (by decide) ?_
        refine E_goto dX12_worksOut_152 ?_
        have ev : evL fa (cdF v t) (k + 1) = (if x = 0 then 1 else 0) :: r := by rw [evL, evS.eq_def, if_neg (by rw [ca]; decide), if_pos ca, hL]
        exact E.loc (by exact ⟨rfl, rfl, rfl, rfl, rfl, trivial⟩) (ih (k + 1) _ _ _ (by rw [hx2, ev]; rfl) (by rw [hx4, nI_1]) (by omega) (by rw [wr_ne (by decide)]; exact hv) (by rw [wr_ne (by decide)]; exact hfa) (by rw [ev, wr_at]; rw [hst.1] at c107; exact ⟨by rw [pk_us]; simp [c107], stk_upd (Nat.le_refl _) hst.2⟩) (fun S9 a9 b9 => hq S9 a9 (MF.w2.tr b9)))
    · obtain ⟨x, z, r, hL⟩ := len2 hlen cb
      rw [hL] at hx2 hst hlen
      simp only [List.length_cons] at hx2 hlen
      have hr1 : x2 + (-1) = nI (r.length + 1) := by rw [hx2]; exact pk_m1 _
      have hr : x2 + (-1) - 1 = nI r.length := by rw [hr1, nI_pred]
      refine E_iload dX12_worksOut_44 rfl ?_
      refine E_if_lt dX12_worksOut_46 (fun _ => ?_) (fun c => absurd (i_nle ca) c)
      refine E_iload dX12_worksOut_85 rfl ?_
      refine E_bipush (v := (-10)) dX12_worksOut_87 (by decide) ?_
      refine E_icmp_ne dX12_worksOut_89 (fun _ => ?_) (fun c => absurd c cd0)
      refine E_iinc (v := (-1)) dX12_worksOut_119 rfl (by decide) (by decide) ?_
      refine E_aload_n dX12_worksOut_122 rfl ?_
      refine L_get fX12_48 dX12_worksOut_123 (by decide) sh_159 rfl ?_
      refine E_iload_n dX12_worksOut_126 rfl ?_
      refine E_ic (v := 1) dX12_worksOut_127 (by decide) ?_
      refine E_isub dX12_worksOut_128 ?_
      refine E_iload dX12_worksOut_129 rfl ?_
      refine E_aload_n dX12_worksOut_131 rfl ?_
      refine L_get fX12_48 dX12_worksOut_132 (by decide) sh_159 rfl ?_
      refine E_iload_n dX12_worksOut_135 rfl ?_
      refine E_ic (v := 1) dX12_worksOut_136 (by decide) ?_
      refine E_isub dX12_worksOut_137 ?_
      refine L_iald (j := r.length) dX12_worksOut_138 (by decide) sh_172 hr (by omega) (by decide) ?_
      refine E_aload_n dX12_worksOut_139 rfl ?_
      refine L_get fX12_48 dX12_worksOut_140 (by decide) sh_159 rfl ?_
      refine E_iload_n dX12_worksOut_143 rfl ?_
      refine L_iald (j := r.length + 1) dX12_worksOut_144 (by decide) sh_172 hr1 (by omega) (by decide) ?_
      refine E_S3i sX12_271 dX12_worksOut_145 (Nat.le_of_ble_eq_true rfl) (s_X12_two ?_)
      refine L_iast (j := r.length) dX12_worksOut_148 (by decide) sh_172 hr (by omega) (by decide) ?_
      refine E_iinc (v := 1) dX12_worksOut_149 rfl (by decide) (by decide) ?_
      refine E_goto dX12_worksOut_152 ?_
      have ev : evL fa (cdF v t) (k + 1) = twoF (cdF v t k) z x :: r := by rw [evL, evS.eq_def, if_neg ca, if_neg cd0, hL]
      exact E.loc (by exact ⟨rfl, rfl, rfl, rfl, rfl, trivial⟩) (ih (k + 1) _ _ _ (by rw [hr1, ev]; rfl) (by rw [hx4, nI_1]) (by omega) (by rw [wr_ne (by decide)]; exact hv) (by rw [wr_ne (by decide)]; exact hfa) (by rw [ev, wr_at]; refine ⟨?_, stk_upd (Nat.le_refl _) hst.2.2⟩; rw [pk_us, hst.2.1, show S 172 (r.length + 1) = x from hst.1]) (fun S9 a9 b9 => hq S9 a9 (MF.w2.tr b9)))
theorem s_X12_worksOut {Q : Int32 → HP → Prop} {t : Nat} {fa : Nat → Int32} (hv : S 160 = v) (hfa : S 173 = fa) (ht : t < 14) (ok : txOk v t) (hq : ∀ S', S' 160 = v → MF S S' → Q (evF v t fa) (lay Θ S')) : C Θ (d + 1) 0 0 yX12_worksOut cX12_worksOut 6 (some .int) [.ref (tb Θ + 159), .int (nI t)] 183 (lay Θ S) (Qi Q) := by
  refine C_of rfl rfl (Nat.le_of_ble_eq_true rfl) ?_
  refine E_ic (v := 0) dX12_worksOut_0 (by decide) ?_
  refine E_istore_n dX12_worksOut_1 (by decide) ?_
  refine E_aload_n dX12_worksOut_2 rfl ?_
  refine L_get fX12_9 dX12_worksOut_3 (by decide) sh_159 rfl ?_
  refine E_bipush (v := 96) dX12_worksOut_6 (by decide) ?_
  refine E_ic (v := 2) dX12_worksOut_8 (by decide) ?_
  refine E_iload_n dX12_worksOut_9 rfl ?_
  refine E_imul dX12_worksOut_10 ?_
  refine E_iadd dX12_worksOut_11 ?_
  refine N_iald (j := 96 + 2 * t) dX12_worksOut_12 (txI t) (by omega) hv ?_
  refine E_sipush (v := 1000) dX12_worksOut_13 (by decide) ?_
  refine E_irem dX12_worksOut_16 (by decide) ?_
  refine E_istore_n dX12_worksOut_17 (by decide) ?_
  refine E_ic (v := 0) dX12_worksOut_18 (by decide) ?_
  refine E_istore dX12_worksOut_19 (by decide) ?_
  rw [show v (96 + 2 * t) - v (96 + 2 * t) / 1000 * 1000 = nI (lnF v t) from ln_eq ok]
  exact E.loc (by exact ⟨rfl, rfl, rfl, rfl, rfl, trivial⟩) (l_X12_worksOut ht ok (lnF v t) 0 S 0 0 rfl rfl (by omega) hv hfa trivial hq)
end Ref3
