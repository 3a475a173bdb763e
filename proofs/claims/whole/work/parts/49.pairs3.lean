/-! pairs of the class -/
theorem ge_no {x : Int32} {a b : Nat} (ha : a < 2000) (hb : b < 2000) (hx : x = nI b) (h : b < a) : ¬ nI a ≤ x := fun c => absurd ((nI_leI (by omega) (by omega)).mp (hx ▸ c)) (by omega)
section Pz
variable {Θ : Th} {d : Nat} {S : SS} {v : WV}
theorem l_X11_fp81 {Q : HP → Prop} (iv : IV v) {c : Nat} (hc : c ≤ 30000) (h10 : v 10 = nI c) {m p o : Nat} (hm : v 1 = nI m) (hmm : mN v = m) (hm9 : m ≤ 9) (hpo : p < o) (ho : o < m) {bk : Int32}  : ∀ (f : Nat) (S : SS) (x5 x6 : Int32) (j : Nat), x6 = nI j → j + f = 6 → x5 = (if (soF v p o j).1 = nobody then 0 else 1) → WRep S 20 v → TRep S v → (∀ S', WF 64 S S' → ∀ x6, E Θ (d + 7) 0 0 yX11_findPartners cX11_findPartners 7 none 0 0 183 (lay Θ S') 124 [(6, .int x6), (5, .int (if (soF v p o 6).1 = nobody then 0 else 1)), (4, .int 1), (3, .int (nI o)), (2, .int (nI p)), (1, .int bk), (0, .ref (tb Θ + 0))] [] (Qv Q)) → E Θ (d + 7) 0 0 yX11_findPartners cX11_findPartners 7 none 0 0 183 (lay Θ S) 81 [(6, .int x6), (5, .int x5), (4, .int 1), (3, .int (nI o)), (2, .int (nI p)), (1, .int bk), (0, .ref (tb Θ + 0))] [] (Qv Q) := by
  have hw : isW 20 := isW20
  have hp : p < m := by omega
  intro f
  induction f with
  | zero =>
    intro S x5 x6 j hx6 hi hx5 hR hT K
    refine E_iload dX11_findPartners_81 rfl ?_
    refine E_bipush (v := 6) dX11_findPartners_83 (by decide) ?_
    refine E_icmp_ge dX11_findPartners_85 (fun _ => ?_) (fun c => absurd (by rw [hx6]; exact nI_le (a := 6) (by omega) (by omega)) c)
    obtain rfl : j = 6 := by omega
    rw [hx5]
    exact E.loc (by exact ⟨rfl, rfl, rfl, rfl, rfl, rfl, rfl, trivial⟩) (K S WF.rf x6)
  | succ f ih =>
    intro S x5 x6 j hx6 hi hx5 hR hT K
    by_cases hs : (soF v p o j).1 = nobody
    · rw [if_pos hs] at hx5
      subst hx5
      refine E_iload dX11_findPartners_81 rfl ?_
      refine E_bipush (v := 6) dX11_findPartners_83 (by decide) ?_
      refine E_icmp_ge dX11_findPartners_85 (fun c => absurd c (ge_no (a := 6) (by omega) (by omega) hx6 (by omega))) (fun _ => ?_)
      refine E_iload dX11_findPartners_88 rfl ?_
      refine E_if_eq dX11_findPartners_90 (fun c => absurd c (by decide)) (fun _ => ?_)
      refine E_iload dX11_findPartners_93 rfl ?_
      refine E_if_ne dX11_findPartners_95 (fun c => absurd rfl c) (fun _ => ?_)
      refine E_aload_n dX11_findPartners_98 rfl ?_
      refine E_iload_n dX11_findPartners_99 rfl ?_
      refine E_iload_n dX11_findPartners_100 rfl ?_
      refine E_iload dX11_findPartners_101 rfl ?_
      refine E_V3i vX11_220_11 dX11_findPartners_103 (Nat.le_of_ble_eq_true rfl) (by decide) (sh_0 _) (s_X11_minutesOver hR iv hT hc h10 hm hmm hm9 hp ho (by omega) (show j < 6 by omega) hx6 (fun S103 f103 => ?_))
      refine E_ldc dX11_findPartners_106 kX11_181 ?_
      refine E_icmp_eq dX11_findPartners_108 (fun c108 => ?_) (fun c108 => ?_)
      · refine E_ic (v := 0) dX11_findPartners_115 (by decide) ?_
        refine E_istore dX11_findPartners_116 (by decide) ?_
        refine E_iinc (v := 1) dX11_findPartners_118 rfl (by decide) (by decide) ?_
        refine E_goto dX11_findPartners_121 ?_
        exact E.loc (by exact ⟨rfl, rfl, rfl, rfl, rfl, rfl, rfl, trivial⟩) (ih S103 _ _ (j + 1) (by rw [hx6, nI_1]) (by omega) (by rw [if_pos ((so_next hs (by omega)).mpr c108)]) (WRep.wf isW20 isW64 (by decide) hR (by omega) f103) (hT.keep isW64 f103 eqHi.rf rfl (tN_le iv)) (fun S9 b9 => K S9 (f103.tr b9)))
      · refine E_ic (v := 1) dX11_findPartners_111 (by decide) ?_
        refine E_goto dX11_findPartners_112 ?_
        refine E_istore dX11_findPartners_116 (by decide) ?_
        refine E_iinc (v := 1) dX11_findPartners_118 rfl (by decide) (by decide) ?_
        refine E_goto dX11_findPartners_121 ?_
        exact E.loc (by exact ⟨rfl, rfl, rfl, rfl, rfl, rfl, rfl, trivial⟩) (ih S103 _ _ (j + 1) (by rw [hx6, nI_1]) (by omega) (by rw [if_neg (fun h => c108 ((so_next hs (by omega)).mp h))]) (WRep.wf isW20 isW64 (by decide) hR (by omega) f103) (hT.keep isW64 f103 eqHi.rf rfl (tN_le iv)) (fun S9 b9 => K S9 (f103.tr b9)))
    · rw [if_neg hs] at hx5
      subst hx5
      refine E_iload dX11_findPartners_81 rfl ?_
      refine E_bipush (v := 6) dX11_findPartners_83 (by decide) ?_
      refine E_icmp_ge dX11_findPartners_85 (fun c => absurd c (ge_no (a := 6) (by omega) (by omega) hx6 (by omega))) (fun _ => ?_)
      refine E_iload dX11_findPartners_88 rfl ?_
      refine E_if_eq dX11_findPartners_90 (fun c => absurd c (by decide)) (fun _ => ?_)
      refine E_iload dX11_findPartners_93 rfl ?_
      refine E_if_ne dX11_findPartners_95 (fun _ => ?_) (fun c => absurd c (by decide))
      have h6 := so_mono hs (f + 1) hi
      rw [if_neg h6] at K
      exact E.loc (by exact ⟨rfl, rfl, rfl, rfl, rfl, rfl, rfl, trivial⟩) (K S WF.rf x6)
theorem l_X11_fp25 {Q : HP → Prop} (iv : IV v) {c : Nat} (hc : c ≤ 30000) (h10 : v 10 = nI c) {m p : Nat} (hm : v 1 = nI m) (hmm : mN v = m) (hm9 : m ≤ 9) (hp : p < m) {bk : Int32}  : ∀ (f : Nat) (S : SS) (x3 : Int32) (o : Nat), x3 = nI o → o + f = m → p < o → S 11 p = nI (smF (prF v bk p) o) → WRep S 20 v → TRep S v → (∀ S', S' 11 p = nI (smF (prF v bk p) m) → (∀ q, q ≠ p → S' 11 q = S 11 q) → WG S S' → ∀ x3, E Θ (d + 7) 0 0 yX11_findPartners cX11_findPartners 7 none 0 0 183 (lay Θ S') 147 [(3, .int x3), (2, .int (nI p)), (1, .int bk), (0, .ref (tb Θ + 0))] [] (Qv Q)) → E Θ (d + 7) 0 0 yX11_findPartners cX11_findPartners 7 none 0 0 183 (lay Θ S) 25 [(3, .int x3), (2, .int (nI p)), (1, .int bk), (0, .ref (tb Θ + 0))] [] (Qv Q) := by
  have hw : isW 20 := isW20
  intro f
  induction f with
  | zero =>
    intro S x3 o hx3 hi hpo h11 hR hT K
    refine E_iload_n dX11_findPartners_25 rfl ?_
    refine E_aload_n dX11_findPartners_26 rfl ?_
    refine L_get fX11_83 dX11_findPartners_27 (by decide) sh_0 rfl ?_
    refine W_get (j := 1) (i := 1) hR hw (by decide) fX11_106 dX11_findPartners_30 ?_
    refine E_icmp_ge dX11_findPartners_33 (fun _ => ?_) (fun c => absurd (by rw [hm, hx3]; exact nI_le (by omega) (by omega)) c)
    obtain rfl : o = m := by omega
    exact E.loc (by exact ⟨rfl, rfl, rfl, rfl, trivial⟩) (K S h11 (fun _ _ => rfl) WG.rf x3)
  | succ f ih =>
    intro S x3 o hx3 hi hpo h11 hR hT K
    refine E_iload_n dX11_findPartners_25 rfl ?_
    refine E_aload_n dX11_findPartners_26 rfl ?_
    refine L_get fX11_83 dX11_findPartners_27 (by decide) sh_0 rfl ?_
    refine W_get (j := 1) (i := 1) hR hw (by decide) fX11_106 dX11_findPartners_30 ?_
    refine E_icmp_ge dX11_findPartners_33 (fun c => absurd c (by rw [hm]; exact ge_no (by omega) (by omega) hx3 (by omega))) (fun _ => ?_)
    refine E_aload_n dX11_findPartners_36 rfl ?_
    refine L_get fX11_83 dX11_findPartners_37 (by decide) sh_0 rfl ?_
    refine L_get fX11_111 dX11_findPartners_40 (by have := (isW20).lt; omega) (sh_W isW20) rfl ?_
    refine E_iload_n dX11_findPartners_43 rfl ?_
    refine L_aald (j := p) dX11_findPartners_44 (by have := (isW20).lt; omega) (sh_Wc isW20) rfl rfl (by omega) (by decide) (if_pos (by omega)) ?_
    refine P_bank (p := p) hR hw hmm hm9 (show p < m by omega) fX11_129 dX11_findPartners_45 ?_
    refine E_iload_n dX11_findPartners_48 rfl ?_
    refine E_icmp_ne dX11_findPartners_49 (fun c49 => ?_) (fun c49 => ?_)
    · refine E_ic (v := 0) dX11_findPartners_72 (by decide) ?_
      refine E_istore dX11_findPartners_73 (by decide) ?_
      refine E_ic (v := 0) dX11_findPartners_75 (by decide) ?_
      refine E_istore dX11_findPartners_76 (by decide) ?_
      refine E_ic (v := 0) dX11_findPartners_78 (by decide) ?_
      refine E_istore dX11_findPartners_79 (by decide) ?_
      refine E_iload dX11_findPartners_81 rfl ?_
      refine E_bipush (v := 6) dX11_findPartners_83 (by decide) ?_
      refine E_icmp_ge dX11_findPartners_85 (fun c => absurd c (by decide)) (fun _ => ?_)
      refine E_iload dX11_findPartners_88 rfl ?_
      refine E_if_eq dX11_findPartners_90 (fun _ => ?_) (fun c => absurd (by decide) c)
      refine E_iload dX11_findPartners_124 rfl ?_
      refine E_if_eq dX11_findPartners_126 (fun _ => ?_) (fun c => absurd (by decide) c)
      refine E_iinc (v := 1) dX11_findPartners_141 rfl (by decide) (by decide) ?_
      refine E_goto dX11_findPartners_144 ?_
      exact E.loc (by exact ⟨rfl, rfl, rfl, rfl, trivial⟩) (ih S _ (o + 1) (by rw [hx3, nI_1]) (by omega) (by omega) (by rw [sm_f (pr_f (fun h => c49 h.2.2.1))]; exact h11) hR hT (fun S9 a9 q9 b9 => K S9 a9 (fun q hq => (q9 q hq).trans (rfl)) (WG.rf.tr b9)))
    · refine E_aload_n dX11_findPartners_52 rfl ?_
      refine L_get fX11_83 dX11_findPartners_53 (by decide) sh_0 rfl ?_
      refine L_get fX11_111 dX11_findPartners_56 (by have := (isW20).lt; omega) (sh_W isW20) rfl ?_
      refine E_iload_n dX11_findPartners_59 rfl ?_
      refine L_aald (j := o) dX11_findPartners_60 (by have := (isW20).lt; omega) (sh_Wc isW20) rfl hx3 (by omega) (by decide) (if_pos (by omega)) ?_
      refine P_bank (p := o) hR hw hmm hm9 (show o < m by omega) fX11_129 dX11_findPartners_61 ?_
      refine E_iload_n dX11_findPartners_64 rfl ?_
      refine E_icmp_ne dX11_findPartners_65 (fun c65 => ?_) (fun c65 => ?_)
      · refine E_ic (v := 0) dX11_findPartners_72 (by decide) ?_
        refine E_istore dX11_findPartners_73 (by decide) ?_
        refine E_ic (v := 0) dX11_findPartners_75 (by decide) ?_
        refine E_istore dX11_findPartners_76 (by decide) ?_
        refine E_ic (v := 0) dX11_findPartners_78 (by decide) ?_
        refine E_istore dX11_findPartners_79 (by decide) ?_
        refine E_iload dX11_findPartners_81 rfl ?_
        refine E_bipush (v := 6) dX11_findPartners_83 (by decide) ?_
        refine E_icmp_ge dX11_findPartners_85 (fun c => absurd c (by decide)) (fun _ => ?_)
        refine E_iload dX11_findPartners_88 rfl ?_
        refine E_if_eq dX11_findPartners_90 (fun _ => ?_) (fun c => absurd (by decide) c)
        refine E_iload dX11_findPartners_124 rfl ?_
        refine E_if_eq dX11_findPartners_126 (fun _ => ?_) (fun c => absurd (by decide) c)
        refine E_iinc (v := 1) dX11_findPartners_141 rfl (by decide) (by decide) ?_
        refine E_goto dX11_findPartners_144 ?_
        exact E.loc (by exact ⟨rfl, rfl, rfl, rfl, trivial⟩) (ih S _ (o + 1) (by rw [hx3, nI_1]) (by omega) (by omega) (by rw [sm_f (pr_f (fun h => c65 h.2.2.2.1))]; exact h11) hR hT (fun S9 a9 q9 b9 => K S9 a9 (fun q hq => (q9 q hq).trans (rfl)) (WG.rf.tr b9)))
      · refine E_ic (v := 1) dX11_findPartners_68 (by decide) ?_
        refine E_goto dX11_findPartners_69 ?_
        refine E_istore dX11_findPartners_73 (by decide) ?_
        refine E_ic (v := 0) dX11_findPartners_75 (by decide) ?_
        refine E_istore dX11_findPartners_76 (by decide) ?_
        refine E_ic (v := 0) dX11_findPartners_78 (by decide) ?_
        refine E_istore dX11_findPartners_79 (by decide) ?_
        rw [hx3]
        refine E.loc (ls' := [(6, .int 0), (5, .int 0), (4, .int 1), (3, .int (nI o)), (2, .int (nI p)), (1, .int bk), (0, .ref (tb Θ + 0))]) (by exact ⟨rfl, rfl, rfl, rfl, rfl, rfl, rfl, trivial⟩) (l_X11_fp81 iv hc h10 hm hmm hm9 hpo (by omega) 6 S 0 0 0 rfl (by omega) rfl hR hT (fun S8 f8 x6 => ?_))
        have r8 := WRep.wf isW20 isW64 (by decide) hR (by omega) f8
        have t8 := hT.keep isW64 f8 eqHi.rf rfl (tN_le iv)
        have e8 : S8 11 = S 11 := f8 11 (by omega) (by omega)
        by_cases hs : (soF v p o 6).1 = nobody
        · rw [if_pos hs]
          refine E_iload dX11_findPartners_124 rfl ?_
          refine E_if_eq dX11_findPartners_126 (fun _ => ?_) (fun c => absurd rfl c)
          refine E_iinc (v := 1) dX11_findPartners_141 rfl (by decide) (by decide) ?_
          refine E_goto dX11_findPartners_144 ?_
          exact E.loc (by exact ⟨rfl, rfl, rfl, rfl, trivial⟩) (ih S8 _ (o + 1) (by rw [nI_1]) (by omega) (by omega) (by rw [e8, sm_f (pr_f (fun h => h.2.2.2.2 hs))]; exact h11) r8 t8 (fun S9 a9 q9 b9 => K S9 a9 (fun q hq => (q9 q hq).trans (by rw [e8])) (f8.wg.tr b9)))
        · rw [if_neg hs]
          refine E_iload dX11_findPartners_124 rfl ?_
          refine E_if_eq dX11_findPartners_126 (fun c => absurd c (by decide)) (fun _ => ?_)
          refine E_aload_n dX11_findPartners_129 rfl ?_
          refine L_get fX11_53 dX11_findPartners_130 (by decide) sh_0 rfl ?_
          refine E_iload_n dX11_findPartners_133 rfl ?_
          refine E_dup2 dX11_findPartners_134 rfl rfl ?_
          refine L_iald (j := p) dX11_findPartners_135 (by decide) sh_11 rfl (by omega) (by decide) ?_
          rw [e8, h11]
          refine E_ic (v := 1) dX11_findPartners_136 (by decide) ?_
          refine E_iload_n dX11_findPartners_137 rfl ?_
          refine E_ishl dX11_findPartners_138 ?_
          refine E_ior dX11_findPartners_139 ?_
          rw [bo_or (sm_5 (by omega)) (by omega) (sm_lt o)]
          refine L_iast (j := p) dX11_findPartners_140 (by decide) sh_11 rfl (by omega) (by decide) ?_
          refine E_iinc (v := 1) dX11_findPartners_141 rfl (by decide) (by decide) ?_
          refine E_goto dX11_findPartners_144 ?_
          exact E.loc (by exact ⟨rfl, rfl, rfl, rfl, trivial⟩) (ih _ _ (o + 1) (by rw [nI_1]) (by omega) (by omega) (by rw [wr_at, pk_us, sm_t (pr_t hpo (by omega) c49 c65 hs)]) (r8.wg (by omega) (WG.w (Or.inl rfl))) (t8.wg (tN_le iv) (WG.w (Or.inl rfl))) (fun S9 a9 q9 b9 => K S9 a9 (fun q hq => (q9 q hq).trans (by rw [wr_at, pk_un hq, e8])) ((f8.wg.tr (WG.w (Or.inl rfl))).tr b9)))
/-- the partners of the first n, none of the others yet -/
def FI (S : SS) (v : WV) (bk : Int32) (m n : Nat) : Prop := ∀ q, q < 9 → S 11 q = if q < n then nI (smF (prF v bk q) m) else 0
theorem l_X11_fp10 {Q : HP → Prop} (iv : IV v) {c : Nat} (hc : c ≤ 30000) (h10 : v 10 = nI c) {m : Nat} (hm : v 1 = nI m) (hmm : mN v = m) (hm9 : m ≤ 9) {bk : Int32}  : ∀ (f : Nat) (S : SS) (x2 : Int32) (p : Nat), x2 = nI p → p + f = m → FI S v bk m p → WRep S 20 v → TRep S v → (∀ S', FI S' v bk m m → WG S S' → Q (lay Θ S')) → E Θ (d + 7) 0 0 yX11_findPartners cX11_findPartners 7 none 0 0 183 (lay Θ S) 10 [(2, .int x2), (1, .int bk), (0, .ref (tb Θ + 0))] [] (Qv Q) := by
  have hw : isW 20 := isW20
  intro f
  induction f with
  | zero =>
    intro S x2 p hx2 hi hI hR hT hq
    refine E_iload_n dX11_findPartners_10 rfl ?_
    refine E_aload_n dX11_findPartners_11 rfl ?_
    refine L_get fX11_83 dX11_findPartners_12 (by decide) sh_0 rfl ?_
    refine W_get (j := 1) (i := 1) hR hw (by decide) fX11_106 dX11_findPartners_15 ?_
    refine E_icmp_ge dX11_findPartners_18 (fun _ => ?_) (fun c => absurd (by rw [hm, hx2]; exact nI_le (by omega) (by omega)) c)
    refine E_vret dX11_findPartners_153 rfl rfl ?_
    obtain rfl : p = m := by omega
    exact hq S hI WG.rf
  | succ f ih =>
    intro S x2 p hx2 hi hI hR hT hq
    refine E_iload_n dX11_findPartners_10 rfl ?_
    refine E_aload_n dX11_findPartners_11 rfl ?_
    refine L_get fX11_83 dX11_findPartners_12 (by decide) sh_0 rfl ?_
    refine W_get (j := 1) (i := 1) hR hw (by decide) fX11_106 dX11_findPartners_15 ?_
    refine E_icmp_ge dX11_findPartners_18 (fun c => absurd c (by rw [hm]; exact ge_no (by omega) (by omega) hx2 (by omega))) (fun _ => ?_)
    refine E_iload_n dX11_findPartners_21 rfl ?_
    refine E_ic (v := 1) dX11_findPartners_22 (by decide) ?_
    refine E_iadd dX11_findPartners_23 ?_
    refine E_istore_n dX11_findPartners_24 (by decide) ?_
    rw [hx2]
    refine E.loc (ls' := [(3, .int (nI p + 1)), (2, .int (nI p)), (1, .int bk), (0, .ref (tb Θ + 0))]) (by exact ⟨rfl, rfl, rfl, rfl, trivial⟩) (l_X11_fp25 iv hc h10 hm hmm hm9 (show p < m by omega) f S _ (p + 1) (nI_1 p) (by omega) (by omega) (by rw [hI p (by omega), if_neg (by omega), sm_no (p + 1) (fun k hk => pr_f (fun h => absurd h.1 (by omega)))]; rfl) hR hT (fun S8 a8 q8 f8 x3 => ?_))
    refine E_iinc (v := 1) dX11_findPartners_147 rfl (by decide) (by decide) ?_
    refine E_goto dX11_findPartners_150 ?_
    refine E.loc (by exact ⟨rfl, rfl, rfl, trivial⟩) (ih S8 _ (p + 1) (by rw [nI_1]) (by omega) (fun q hq => ?_) (hR.wg (by omega) f8) (hT.wg (tN_le iv) f8) (fun S9 a9 b9 => hq S9 a9 (f8.tr b9)))
    by_cases e : q = p
    · rw [e, a8, if_pos (by omega)]
    · rw [q8 q e, hI q hq]
      by_cases h : q < p
      · rw [if_pos h, if_pos (by omega)]
      · rw [if_neg h, if_neg (by omega)]
theorem s_X11_findPartners {Q : HP → Prop} (hR : WRep S 20 v) (iv : IV v) (hT : TRep S v) {c : Nat} (hc : c ≤ 30000) (h10 : v 10 = nI c) {m : Nat} (hm : v 1 = nI m) (hmm : mN v = m) (hm9 : m ≤ 9) {bk : Int32} (hq : ∀ S', FI S' v bk m m → WG S S' → Q (lay Θ S')) : C Θ (d + 7) 0 0 yX11_findPartners cX11_findPartners 7 none [.ref (tb Θ + 0), .int bk] 183 (lay Θ S) (Qv Q) := by
  refine C_of rfl rfl (Nat.le_of_ble_eq_true rfl) ?_
  refine E_aload_n dX11_findPartners_0 rfl ?_
  refine L_get fX11_53 dX11_findPartners_1 (by decide) sh_0 rfl ?_
  refine E_ic (v := 0) dX11_findPartners_4 (by decide) ?_
  refine E_S2v sX11_340 dX11_findPartners_5 (Nat.le_of_ble_eq_true rfl) (s_J7_fill (k := 11) (by decide) sh_11 (by decide) (fun S5 a5 f5 => ?_))
  refine E_ic (v := 0) dX11_findPartners_8 (by decide) ?_
  refine E_istore_n dX11_findPartners_9 (by decide) ?_
  have g5 : WG S S5 := fun k _ _ h _ _ => f5 k h
  exact E.loc (by exact ⟨rfl, rfl, rfl, trivial⟩) (l_X11_fp10 iv hc h10 hm hmm hm9 m S5 0 0 rfl (by omega) (fun q hq => by rw [if_neg (by omega)]; exact a5 q hq) (hR.wg (by omega) g5) (hT.wg (tN_le iv) g5) (fun S9 a9 b9 => hq S9 a9 (g5.tr b9)))
/-- what the class's rows hold of partners, and of the first n sets -/
def QI_ (S : SS) (pr : Nat → Nat → Bool) (n : Nat) : Prop := (∀ p, p < 9 → ∃ a, a < 512 ∧ S 11 p = nI a ∧ ∀ k, k < 9 → bo a k = pr p k) ∧ ∀ g, g < n → S 12 g = nI (pH pr 9 (bo g))
theorem pW_left {pr : Nat → Nat → Bool} {g p : Nat} (hg : g < 512) (hp : p < 9) (hz : ∀ k, k < p → bo g k = false) : pH pr 9 (bo (rmB g p)) = pH pr (8 - p) (bo g) := by
  have := pH_skip (pr := pr) (b := bo (rmB g p)) (f := 8 - p) (p + 1) (by omega) (fun k h1 h2 => by
    rw [bo_rm hg hp (by omega)]
    rcases (show k < p ∨ k = p by omega) with h | h
    · rw [hz k h]; rfl
    · rw [h]; simp)
  rw [show 8 - p + (p + 1) = 9 by omega] at this
  rw [this]
  exact pH_congr _ _ _ (by omega) (fun k h1 h2 => by rw [bo_rm hg hp h2, show (k != p) = true by simp; omega, Bool.and_true])
theorem pW_left2 {pr : Nat → Nat → Bool} {g p o : Nat} (hg : g < 512) (hp : p < 9) (hpo : p < o) (ho : o < 9) (hz : ∀ k, k < p → bo g k = false) : pH pr 9 (bo (rmB (rmB g p) o)) = pH pr (8 - p) (fun k => bo g k && k != o) := by
  have hl := rm_lt hg hp
  have := pH_skip (pr := pr) (b := bo (rmB (rmB g p) o)) (f := 8 - p) (p + 1) (by omega) (fun k h1 h2 => by
    rw [bo_rm hl ho (by omega), bo_rm hg hp (by omega)]
    rcases (show k < p ∨ k = p by omega) with h | h
    · rw [hz k h]; rfl
    · rw [h]; simp)
  rw [show 8 - p + (p + 1) = 9 by omega] at this
  rw [this]
  exact pH_congr _ _ _ (by omega) (fun k h1 h2 => by rw [bo_rm hl ho h2, bo_rm hg hp h2, show (k != p) = true by simp; omega, Bool.and_true])
theorem pW_at {pr : Nat → Nat → Bool} {g p : Nat} (hp : p < 9) (hb : bo g p = true) (hz : ∀ k, k < p → bo g k = false) : pH pr 9 (bo g) = pL (fun o => bo g o && pr p o) (fun o => pH pr (8 - p) (fun k => bo g k && k != o)) (8 - p) (pH pr (8 - p) (bo g)) := by
  have := pH_skip (pr := pr) (b := bo g) (f := 8 - p + 1) p (by omega) (fun k h1 h2 => hz k (by omega))
  rw [show 8 - p + 1 + p = 9 by omega] at this
  rw [this, pH, show 8 - (8 - p) = p by omega, if_pos hb]
theorem mx_nI {n k : Nat} (hn : n < 2000) (hk : k < 2000) : (if nI n < nI k then nI k else nI n) = nI (if n < k then k else n) := by
  by_cases h : n < k
  · rw [if_pos (nI_lt h (by omega)), if_pos h]
  · rw [if_neg (nI_nlt (by omega) (by omega)), if_neg h]
theorem l_X11_pairsOf49 {Q : Int32 → HP → Prop} {pr : Nat → Nat → Bool} {g p : Nat} (hg : g < 512) (hp : p < 9) (hbp : bo g p = true) (hz : ∀ k, k < p → bo g k = false) (hQ : QI_ S pr g) {y : Int32} : ∀ (f most : Nat) (x5 x6 : Int32), f ≤ 8 - p → most ≤ 20 → x5 = nI most → x6 = nI (9 - f) → (∀ x6, E Θ (d + 1) 0 0 yX11_pairsOf cX11_pairsOf 8 (some .int) 0 0 183 (lay Θ S) 102 [(6, .int x6), (5, .int (nI (pL (fun o => bo g o && pr p o) (fun o => pH pr (8 - p) (fun k => bo g k && k != o)) f most))), (4, .int (nI (rmB g p))), (3, .int (nI p)), (2, .int (nI g)), (1, .int y), (0, .ref (tb Θ + 0))] [] (Qi Q)) → E Θ (d + 1) 0 0 yX11_pairsOf cX11_pairsOf 8 (some .int) 0 0 183 (lay Θ S) 49 [(6, .int x6), (5, .int x5), (4, .int (nI (rmB g p))), (3, .int (nI p)), (2, .int (nI g)), (1, .int y), (0, .ref (tb Θ + 0))] [] (Qi Q) := by
  intro f
  induction f with
  | zero =>
    intro most x5 x6 _ _ hx5 hx6 K
    refine E_iload dX11_pairsOf_49 rfl ?_
    refine E_bipush (v := 9) dX11_pairsOf_51 (by decide) ?_
    refine E_icmp_ge dX11_pairsOf_53 (fun _ => ?_) (fun c => absurd (by rw [hx6]; exact nI_le (a := 9) (by omega) (by omega)) c)
    rw [hx5]
    exact E.loc (by exact ⟨rfl, rfl, rfl, rfl, rfl, rfl, rfl, trivial⟩) (K x6)
  | succ f ih =>
    intro most x5 x6 hf hmo hx5 hx6 K
    have hl : rmB g p < 512 := rm_lt hg hp
    have e6 : x6 = nI (8 - f) := by rw [hx6, show 9 - (f + 1) = 8 - f by omega]
    subst e6
    have hbo : bo (rmB g p) (8 - f) = bo g (8 - f) := by
      rw [bo_rm hg hp (by omega), show ((8 - f) != p) = true by simp; omega, Bool.and_true]
    obtain ⟨a, ha, ea, hak⟩ := hQ.1 p hp
    have lF := pH_le (pr := pr) (8 - p) (fun k => bo g k && k != (8 - f))
    rw [pL] at K
    refine E_iload dX11_pairsOf_49 rfl ?_
    refine E_bipush (v := 9) dX11_pairsOf_51 (by decide) ?_
    refine E_icmp_ge dX11_pairsOf_53 (fun c => absurd c (ge_no (a := 9) (by omega) (by omega) rfl (by omega))) (fun _ => ?_)
    refine E_ic (v := 1) dX11_pairsOf_56 (by decide) ?_
    refine E_iload dX11_pairsOf_57 rfl ?_
    refine E_ishl dX11_pairsOf_59 ?_
    refine E_istore dX11_pairsOf_60 (by decide) ?_
    refine E_iload dX11_pairsOf_62 rfl ?_
    refine E_aload_n dX11_pairsOf_64 rfl ?_
    refine L_get fX11_53 dX11_pairsOf_65 (by decide) sh_0 rfl ?_
    refine E_iload_n dX11_pairsOf_68 rfl ?_
    refine L_iald (j := p) dX11_pairsOf_69 (by decide) sh_11 rfl hp (by decide) ?_
    rw [ea]
    refine E_iand dX11_pairsOf_70 ?_
    refine E_iload dX11_pairsOf_71 rfl ?_
    refine E_iand dX11_pairsOf_73 ?_
    refine E_if_eq dX11_pairsOf_74 (fun c74 => ?_) (fun c74 => ?_)
    · refine E_iinc (v := 1) dX11_pairsOf_96 rfl (by decide) (by decide) ?_
      refine E_goto dX11_pairsOf_99 ?_
      have hb : ¬ (bo g (8 - f) && pr p (8 - f)) = true := fun h => absurd ((bo_and3 hl ha (by omega)).mp c74) (by rw [hbo, hak _ (by omega), h]; decide)
      rw [if_neg hb] at K
      exact E.loc (by exact ⟨rfl, rfl, rfl, rfl, rfl, rfl, rfl, trivial⟩) (ih most _ _ (by omega) (by omega) hx5 (by rw [nI_1, show 8 - f + 1 = 9 - f by omega]) K)
    · have hb : (bo g (8 - f) && pr p (8 - f)) = true := by
        rw [← hbo, ← hak _ (show 8 - f < 9 by omega)]
        cases hh : (bo (rmB g p) (8 - f) && bo a (8 - f))
        · exact absurd ((bo_and3 hl ha (by omega)).mpr hh) c74
        · rfl
      have hb1 : bo (rmB g p) (8 - f) = true := by rw [hbo]; exact (Bool.and_eq_true_iff.mp hb).1
      rw [if_pos hb] at K
      refine E_iload dX11_pairsOf_77 rfl ?_
      refine E_ic (v := 1) dX11_pairsOf_79 (by decide) ?_
      refine E_aload_n dX11_pairsOf_80 rfl ?_
      refine L_get fX11_56 dX11_pairsOf_81 (by decide) sh_0 rfl ?_
      refine E_iload dX11_pairsOf_84 rfl ?_
      refine E_iload dX11_pairsOf_86 rfl ?_
      refine E_ixor dX11_pairsOf_88 ?_
      rw [bo_x hl (by omega) hb1]
      refine L_iald (j := rmB (rmB g p) (8 - f)) dX11_pairsOf_89 (by decide) sh_12 rfl (rm_lt hl (by omega)) (by decide) ?_
      rw [hQ.2 _ (Nat.lt_trans (rm_ls hl (by omega) hb1) (rm_ls hg hp hbp)), pW_left2 hg hp (show p < 8 - f by omega) (by omega) hz]
      refine E_iadd dX11_pairsOf_90 ?_
      rw [show (1 : Int32) + nI (pH pr (8 - p) (fun k => bo g k && k != (8 - f))) = nI (1 + pH pr (8 - p) (fun k => bo g k && k != (8 - f))) from nI_add 1 _, hx5]
      refine E_mmax mX11_333 w_maxs w_mi w_maxc dX11_pairsOf_91 (Nat.le_of_ble_eq_true rfl) ?_
      rw [mx_nI (by omega) (by omega)]
      refine E_istore dX11_pairsOf_94 (by decide) ?_
      refine E_iinc (v := 1) dX11_pairsOf_96 rfl (by decide) (by decide) ?_
      refine E_goto dX11_pairsOf_99 ?_
      exact E.loc (by exact ⟨rfl, rfl, rfl, rfl, rfl, rfl, rfl, trivial⟩) (ih _ _ _ (by omega) (by split <;> omega) rfl (by rw [nI_1, show 8 - f + 1 = 9 - f by omega]) K)
theorem l_X11_pairsOf9 {Q : Int32 → HP → Prop} {pr : Nat → Nat → Bool} {e : Nat} (he : e < 512) : ∀ (f : Nat) (S : SS) (x2 : Int32) (g : Nat), x2 = nI g → g + f = e + 1 → 1 ≤ g → QI_ S pr g → (∀ S', WG S S' → Q (nI (pH pr 9 (bo e))) (lay Θ S')) → E Θ (d + 1) 0 0 yX11_pairsOf cX11_pairsOf 8 (some .int) 0 0 183 (lay Θ S) 9 [(2, .int x2), (1, .int (nI e)), (0, .ref (tb Θ + 0))] [] (Qi Q) := by
  intro f
  induction f with
  | zero =>
    intro S x2 g hx2 hi h1 hQ hq
    refine E_iload_n dX11_pairsOf_9 rfl ?_
    refine E_iload_n dX11_pairsOf_10 rfl ?_
    refine E_icmp_gt dX11_pairsOf_11 (fun _ => ?_) (fun c => absurd (by rw [hx2]; exact nI_lt (by omega) (by omega)) c)
    refine E_aload_n dX11_pairsOf_116 rfl ?_
    refine L_get fX11_56 dX11_pairsOf_117 (by decide) sh_0 rfl ?_
    refine E_iload_n dX11_pairsOf_120 rfl ?_
    refine L_iald (j := e) dX11_pairsOf_121 (by decide) sh_12 rfl (by omega) (by decide) ?_
    rw [hQ.2 e (by omega)]
    refine E_iret dX11_pairsOf_122 rfl rfl ?_
    exact hq S WG.rf
  | succ f ih =>
    intro S x2 g hx2 hi h1 hQ hq
    obtain ⟨hlow, hbp, hl9, -⟩ := bo_low (g := g) (by omega) (by omega)
    have hz : ∀ k, k < lsb g → bo g k = false := fun k hk => ls_min (by omega) (by omega) hk
    rw [hx2]
    refine E_iload_n dX11_pairsOf_9 rfl ?_
    refine E_iload_n dX11_pairsOf_10 rfl ?_
    refine E_icmp_gt dX11_pairsOf_11 (fun c => absurd c (nI_nlt (by omega) (by omega))) (fun _ => ?_)
    refine E_iload_n dX11_pairsOf_14 rfl ?_
    refine E_aload_n dX11_pairsOf_15 rfl ?_
    refine L_get fX11_56 dX11_pairsOf_16 (by decide) sh_0 rfl ?_
    refine L_alen dX11_pairsOf_19 (by decide) sh_12 rfl ?_
    refine E_icmp_ge dX11_pairsOf_20 (fun c => absurd c (nI_ge (a := g) (b := 512) (by omega) (by omega))) (fun _ => ?_)
    refine E_iload_n dX11_pairsOf_23 rfl ?_
    refine E_S1i sX11_346 dX11_pairsOf_24 (Nat.le_of_ble_eq_true rfl) (s_J6_ntz (by omega) (by omega) ?_)
    refine E_istore_n dX11_pairsOf_27 (by decide) ?_
    refine E_iload_n dX11_pairsOf_28 rfl ?_
    refine E_iload_n dX11_pairsOf_29 rfl ?_
    refine E_ic (v := 1) dX11_pairsOf_30 (by decide) ?_
    refine E_isub dX11_pairsOf_31 ?_
    refine E_iand dX11_pairsOf_32 ?_
    rw [hlow]
    refine E_istore dX11_pairsOf_33 (by decide) ?_
    refine E_aload_n dX11_pairsOf_35 rfl ?_
    refine L_get fX11_56 dX11_pairsOf_36 (by decide) sh_0 rfl ?_
    refine E_iload dX11_pairsOf_39 rfl ?_
    refine L_iald (j := rmB g (lsb g)) dX11_pairsOf_41 (by decide) sh_12 rfl (rm_lt (by omega) hl9) (by decide) ?_
    rw [hQ.2 _ (rm_ls (by omega) hl9 hbp), pW_left (by omega) hl9 hz]
    refine E_istore dX11_pairsOf_42 (by decide) ?_
    refine E_iload_n dX11_pairsOf_44 rfl ?_
    refine E_ic (v := 1) dX11_pairsOf_45 (by decide) ?_
    refine E_iadd dX11_pairsOf_46 ?_
    refine E_istore dX11_pairsOf_47 (by decide) ?_
    refine E.loc (ls' := [(6, .int (nI (lsb g) + 1)), (5, .int (nI (pH pr (8 - lsb g) (bo g)))), (4, .int (nI (rmB g (lsb g)))), (3, .int (nI (lsb g))), (2, .int (nI g)), (1, .int (nI e)), (0, .ref (tb Θ + 0))]) (by exact ⟨rfl, rfl, rfl, rfl, rfl, rfl, rfl, trivial⟩) (l_X11_pairsOf49 (by omega) hl9 hbp hz hQ (8 - lsb g) (pH pr (8 - lsb g) (bo g)) _ _ (Nat.le_refl _) (by have := pH_le (pr := pr) (8 - lsb g) (bo g); omega) rfl (by rw [nI_1, show lsb g + 1 = 9 - (8 - lsb g) by omega]) (fun x6 => ?_))
    rw [← pW_at hl9 hbp hz]
    refine E_aload_n dX11_pairsOf_102 rfl ?_
    refine L_get fX11_56 dX11_pairsOf_103 (by decide) sh_0 rfl ?_
    refine E_iload_n dX11_pairsOf_106 rfl ?_
    refine E_iload dX11_pairsOf_107 rfl ?_
    refine L_iast (j := g) dX11_pairsOf_109 (by decide) sh_12 rfl (by omega) (by decide) ?_
    refine E_iinc (v := 1) dX11_pairsOf_110 rfl (by decide) (by decide) ?_
    refine E_goto dX11_pairsOf_113 ?_
    refine E.loc (by exact ⟨rfl, rfl, rfl, trivial⟩) (ih _ _ (g + 1) (by rw [nI_1]) (by omega) (by omega) ⟨fun p hp => ?_, fun k hk => ?_⟩ (fun S9 b9 => hq S9 ((WG.w (Or.inr (Or.inl rfl))).tr b9)))
    · rw [wr_ne (by decide)]
      exact hQ.1 p hp
    · rw [wr_at]
      by_cases h : k = g
      · rw [h, pk_us]
      · rw [pk_un h]
        exact hQ.2 k (by omega)
theorem pH_0 {pr : Nat → Nat → Bool} : pH pr 9 (bo 0) = 0 := by
  have := pH_skip (pr := pr) (b := bo 0) (f := 0) 9 (by omega) (fun k _ h => fbo_0 ⟨k, by omega⟩)
  exact this
theorem s_X11_pairsOf {Q : Int32 → HP → Prop} {pr : Nat → Nat → Bool} {e : Nat} (he : e < 512) (hP : ∀ p, p < 9 → ∃ a, a < 512 ∧ S 11 p = nI a ∧ ∀ k, k < 9 → bo a k = pr p k) (hq : ∀ S', WG S S' → Q (nI (pH pr 9 (bo e))) (lay Θ S')) : C Θ (d + 1) 0 0 yX11_pairsOf cX11_pairsOf 8 (some .int) [.ref (tb Θ + 0), .int (nI e)] 183 (lay Θ S) (Qi Q) := by
  refine C_of rfl rfl (Nat.le_of_ble_eq_true rfl) ?_
  refine E_aload_n dX11_pairsOf_0 rfl ?_
  refine L_get fX11_56 dX11_pairsOf_1 (by decide) sh_0 rfl ?_
  refine E_ic (v := 0) dX11_pairsOf_4 (by decide) ?_
  refine E_ic (v := 0) dX11_pairsOf_5 (by decide) ?_
  refine L_iast (j := 0) dX11_pairsOf_6 (by decide) sh_12 rfl (by decide) (by decide) ?_
  refine E_ic (v := 1) dX11_pairsOf_7 (by decide) ?_
  refine E_istore_n dX11_pairsOf_8 (by decide) ?_
  exact E.loc (by exact ⟨rfl, rfl, rfl, trivial⟩) (l_X11_pairsOf9 he e (wr S 12 0 0) 1 1 rfl (by omega) (by omega) ⟨fun p hp => by rw [wr_ne (by decide)]; exact hP p hp, fun k hk => by rw [show k = 0 by omega, wr_at, pk_us, pH_0]; rfl⟩ (fun S9 b9 => hq S9 ((WG.w (Or.inr (Or.inl rfl))).tr b9)))
theorem s_X11_pairs {Q : Int32 → HP → Prop} (hR : WRep S 20 v) (iv : IV v) (hT : TRep S v) {c : Nat} (hc : c ≤ 30000) (h10 : v 10 = nI c) {x : Int32} (hq : ∀ S', WG S S' → Q (pairsR v x) (lay Θ S')) : C Θ (d + 8) 0 0 yX11_pairs cX11_pairs 2 (some .int) [.ref (tb Θ + 0), .int x] 183 (lay Θ S) (Qi Q) := by
  refine C_of rfl rfl (Nat.le_of_ble_eq_true rfl) ?_
  have hw : isW 20 := isW20
  obtain ⟨m, hm9, hm, hpa⟩ := iv.1
  have hmm : mN v = m := by rw [mN, hm, nI_clamp (by omega)]
  refine E_iload_n dX11_pairs_0 rfl ?_
  refine E_S1i sX11_102 dX11_pairs_1 (Nat.le_of_ble_eq_true rfl) (s_X11_isBank (fun g3 => ?_) (fun g3 => ?_))
  · obtain ⟨b, hb, eb, ib⟩ := ix_some (by omega) g3
    refine E_if_ne dX11_pairs_4 (fun _ => ?_) (fun c => absurd c (by decide))
    refine E_aload_n dX11_pairs_10 rfl ?_
    refine E_iload_n dX11_pairs_11 rfl ?_
    refine E_V1v vX11_224_11 dX11_pairs_12 (Nat.le_of_ble_eq_true rfl) (by decide) (sh_0 _) (s_X11_findPartners hR iv hT hc h10 hm hmm hm9 (fun S12 hI g12 => ?_))
    refine E_aload_n dX11_pairs_15 rfl ?_
    refine E_ic (v := 1) dX11_pairs_16 (by decide) ?_
    refine E_aload_n dX11_pairs_17 rfl ?_
    refine L_get fX11_83 dX11_pairs_18 (by decide) sh_0 rfl ?_
    refine W_get (j := 1) (i := 1) (hR.wg (by omega) g12) hw (by decide) fX11_106 dX11_pairs_21 ?_
    refine E_ishl dX11_pairs_24 ?_
    refine E_ic (v := 1) dX11_pairs_25 (by decide) ?_
    refine E_isub dX11_pairs_26 ?_
    rw [hm, bo_all hm9]
    have hPP : ∀ p, p < 9 → ∃ a, a < 512 ∧ S12 11 p = nI a ∧ ∀ k, k < 9 → bo a k = prF v x p k := fun p hp => by
      have h := hI p hp
      by_cases c : p < m
      · rw [if_pos c] at h
        refine ⟨_, sm_5 (by omega), h, fun k hk => ?_⟩
        rw [bo_sm hk m hm9]
        cases hh : prF v x p k
        · exact Bool.and_false _
        · have := (of_decide_eq_true hh).2.1
          rw [decide_eq_true (show k < m by omega)]
          rfl
      · rw [if_neg c] at h
        refine ⟨0, by omega, h, fun k hk => ?_⟩
        rw [fbo_0 ⟨k, hk⟩]
        exact (pr_f (fun g => c (by omega))).symm
    refine E_V1i vX11_227_11 dX11_pairs_27 (Nat.le_of_ble_eq_true rfl) (by decide) (sh_0 _) (s_X11_pairsOf (all_lt hm9) hPP (fun S27 g27 => ?_))
    refine E_iret dX11_pairs_30 rfl rfl ?_
    rw [pairsR, ib, Option.elim, hmm] at hq
    exact hq S27 (g12.tr g27)
  · have ib := ix_none (by omega) g3
    refine E_if_ne dX11_pairs_4 (fun c => absurd rfl c) (fun _ => ?_)
    refine E_ldc dX11_pairs_7 kX11_105 ?_
    refine E_iret dX11_pairs_9 rfl rfl ?_
    rw [pairsR, ib] at hq
    exact hq S WG.rf
end Pz
