/-! like of the class -/
section Lj
variable {Θ : Th} {d : Nat} {S : SS} {v : WV}
theorem l_X11_sd39 {Q : HP → Prop} {m s k : Nat} {u : WV} (hs : s < 4) (hk : k < 24) (hm : u 1 = nI m) (hmm : mN u = m) (hm9 : m ≤ 9) {c g : Nat → Int32} : ∀ (f : Nat) (S : SS) (x3 : Int32) (p : Nat), x3 = nI p → p + f = m → OI (S 13) g u (c k) m p → WRep S 64 u → (∀ j, j < 24 → S (131 + 2 * s + 1) j = c j) → (∀ S', OI (S' 13) g u (c k) m m → (∀ k, k ≠ 13 → S' k = S k) → ∀ x3, E Θ (d + 6) 0 0 yX11_sumDifferences cX11_sumDifferences 4 none 0 0 183 (lay Θ S') 87 [(3, .int x3), (2, .int (nI k)), (1, .ref (tb Θ + (131 + 2 * s))), (0, .ref (tb Θ + 0))] [] (Qv Q)) → E Θ (d + 6) 0 0 yX11_sumDifferences cX11_sumDifferences 4 none 0 0 183 (lay Θ S) 39 [(3, .int x3), (2, .int (nI k)), (1, .ref (tb Θ + (131 + 2 * s))), (0, .ref (tb Θ + 0))] [] (Qv Q) := by
  have hw : isW 64 := isW64
  intro f
  induction f with
  | zero =>
    intro S x3 p hx3 hi hO hR hc K
    refine E_iload_n dX11_sumDifferences_39 rfl ?_
    refine E_aload_n dX11_sumDifferences_40 rfl ?_
    refine L_get fX11_90 dX11_sumDifferences_41 (by decide) sh_0 rfl ?_
    refine W_get (j := 1) (i := 1) hR isW64 (by decide) fX11_106 dX11_sumDifferences_44 ?_
    refine E_icmp_ge dX11_sumDifferences_47 (fun _ => ?_) (fun c => absurd (by rw [hm, hx3]; exact nI_le (by omega) (by omega)) c)
    obtain rfl : p = m := by omega
    exact E.loc (by exact ⟨rfl, rfl, rfl, rfl, trivial⟩) (K S hO (fun _ _ => rfl) x3)
  | succ f ih =>
    intro S x3 p hx3 hi hO hR hc K
    refine E_iload_n dX11_sumDifferences_39 rfl ?_
    refine E_aload_n dX11_sumDifferences_40 rfl ?_
    refine L_get fX11_90 dX11_sumDifferences_41 (by decide) sh_0 rfl ?_
    refine W_get (j := 1) (i := 1) hR isW64 (by decide) fX11_106 dX11_sumDifferences_44 ?_
    refine E_icmp_ge dX11_sumDifferences_47 (fun c => absurd c (by rw [hm]; exact ge_no (by omega) (by omega) hx3 (by omega))) (fun _ => ?_)
    refine E_aload_n dX11_sumDifferences_50 rfl ?_
    refine L_get fX11_59 dX11_sumDifferences_51 (by decide) sh_0 rfl ?_
    refine E_iload_n dX11_sumDifferences_54 rfl ?_
    refine E_dup2 dX11_sumDifferences_55 rfl rfl ?_
    refine L_iald (j := p) dX11_sumDifferences_56 (by decide) sh_13 hx3 (by omega) (by decide) ?_
    refine E_aload_n dX11_sumDifferences_57 rfl ?_
    refine L_get fX11_90 dX11_sumDifferences_58 (by decide) sh_0 rfl ?_
    refine L_get fX11_111 dX11_sumDifferences_61 (by have := (isW64).lt; omega) (sh_W isW64) rfl ?_
    refine E_iload_n dX11_sumDifferences_64 rfl ?_
    refine L_aald (j := p) dX11_sumDifferences_65 (by have := (isW64).lt; omega) (sh_Wc isW64) rfl hx3 (by omega) (by decide) (if_pos (by omega)) ?_
    refine P_temp (p := p) hR isW64 hmm hm9 (show p < m by omega) fX11_132 dX11_sumDifferences_66 ?_
    refine E_aload_n dX11_sumDifferences_69 rfl ?_
    refine L_get fX11_292 dX11_sumDifferences_70 (by have := ((isR_s hs)).lt; omega) (sh_R (isR_s hs)) rfl ?_
    refine E_iload_n dX11_sumDifferences_73 rfl ?_
    refine L_iald (j := k) dX11_sumDifferences_74 (by have := ((isR_s hs)).lt; omega) (sh_Rp (isR_s hs)) rfl hk (by decide) ?_
    rw [hc k hk]
    refine E_isub dX11_sumDifferences_75 ?_
    refine E_mabs mX11_351 w_abss w_mi w_absc dX11_sumDifferences_76 (Nat.le_of_ble_eq_true rfl) ?_
    rw [abs_ap, ap_symI]
    refine E_iadd dX11_sumDifferences_79 ?_
    refine L_iast (j := p) dX11_sumDifferences_80 (by decide) sh_13 hx3 (by omega) (by decide) ?_
    refine E_iinc (v := 1) dX11_sumDifferences_81 rfl (by decide) (by decide) ?_
    refine E_goto dX11_sumDifferences_84 ?_
    exact E.loc (by exact ⟨rfl, rfl, rfl, rfl, trivial⟩) (ih _ _ (p + 1) (by rw [hx3, nI_1]) (by omega) (by rw [wr_at]; exact hO.step (by omega)) (hR.sm (by omega) (fun k _ _ => wr_ne (by omega))) (fun j hj => by rw [wr_ne (by omega)]; exact hc j hj) (fun S9 b9 c9 => K S9 b9 (fun k hk => (c9 k hk).trans (wr_ne hk))))
theorem l_X11_sd21 {Q : HP → Prop} (iv : IV v) {m s n : Nat} (hm : v 1 = nI m) (hmm : mN v = m) (hm9 : m ≤ 9) (hs : s < 4) (h24 : n ≤ 24) {c : Nat → Int32} : ∀ (f : Nat) (S : SS) (x2 : Int32) (k : Nat), x2 = nI k → k + f = n → (∀ q, q < m → S 13 q = lkF v c k q) → WRep S 64 (miN v k) → TRep S (miN v k) → S (131 + 2 * s) 1 = nI n → (∀ j, j < 24 → S (131 + 2 * s + 1) j = c j) → (∀ S', (∀ q, q < m → S' 13 q = lkF v c n q) → WG S S' → Q (lay Θ S')) → E Θ (d + 6) 0 0 yX11_sumDifferences cX11_sumDifferences 4 none 0 0 183 (lay Θ S) 21 [(2, .int x2), (1, .ref (tb Θ + (131 + 2 * s))), (0, .ref (tb Θ + 0))] [] (Qv Q) := by
  intro f
  induction f with
  | zero =>
    intro S x2 k hx2 hi hO hR hT hn hc hq
    refine E_iload_n dX11_sumDifferences_21 rfl ?_
    refine E_aload_n dX11_sumDifferences_22 rfl ?_
    refine L_get fX11_297 dX11_sumDifferences_23 (by have := ((isR_s hs)).lt; omega) (sh_R (isR_s hs)) rfl ?_
    rw [hn]
    refine E_icmp_ge dX11_sumDifferences_26 (fun _ => ?_) (fun c => absurd (by rw [hx2]; exact nI_le (by omega) (by omega)) c)
    refine E_vret dX11_sumDifferences_100 rfl rfl ?_
    obtain rfl : k = n := by omega
    exact hq S hO WG.rf
  | succ f ih =>
    intro S x2 k hx2 hi hO hR hT hn hc hq
    refine E_iload_n dX11_sumDifferences_21 rfl ?_
    refine E_aload_n dX11_sumDifferences_22 rfl ?_
    refine L_get fX11_297 dX11_sumDifferences_23 (by have := ((isR_s hs)).lt; omega) (sh_R (isR_s hs)) rfl ?_
    rw [hn]
    refine E_icmp_ge dX11_sumDifferences_26 (fun c => absurd c (ge_no (by omega) (by omega) hx2 (by omega))) (fun _ => ?_)
    refine E_aload_n dX11_sumDifferences_29 rfl ?_
    refine E_iload_n dX11_sumDifferences_30 rfl ?_
    refine E_V1i vX11_300_5 dX11_sumDifferences_31 (Nat.le_of_ble_eq_true rfl) (by have := ((isR_s hs)).lt; omega) ((sh_R (isR_s hs)) _) (s_X5_isNumber (isR_s hs) hx2 (show k < 24 by omega) (fun gz => ?_) (fun gz => ?_))
    · have hcn : ¬ c k = nobody := fun e => gz ((hc k (by omega)).trans e)
      refine E_if_eq dX11_sumDifferences_34 (fun c => absurd c (by decide)) (fun _ => ?_)
      refine E_ic (v := 0) dX11_sumDifferences_37 (by decide) ?_
      refine E_istore_n dX11_sumDifferences_38 (by decide) ?_
      rw [hx2]
      refine E.loc (ls' := [(3, .int 0), (2, .int (nI k)), (1, .ref (tb Θ + (131 + 2 * s))), (0, .ref (tb Θ + 0))]) (by exact ⟨rfl, rfl, rfl, rfl, trivial⟩) (l_X11_sd39 hs (show k < 24 by omega) ((miN_un iv (Or.inl rfl) k).trans hm) ((mN_miN iv k).trans hmm) hm9 (c := c) (g := lkF v c k) m S 0 0 rfl (by omega) (fun q hq => by rw [if_neg (by omega)]; exact hO q hq) hR hc (fun S8 b8 c8 x3 => ?_))
      have r8 : WRep S8 64 (miN v k) := hR.sm (by rw [mN_miN iv k]; omega) (fun j _ _ => c8 j (by omega))
      have t8 : TRep S8 (miN v k) := hT.sm (by rw [tN, miN_un iv (Or.inr (Or.inl rfl)) k]; exact tN_le iv) (fun t ht => ⟨c8 _ (by omega), c8 _ (by omega)⟩)
      refine E_aload_n dX11_sumDifferences_87 rfl ?_
      refine L_get fX11_90 dX11_sumDifferences_88 (by decide) sh_0 rfl ?_
      refine E_V0v vX11_211_10 dX11_sumDifferences_91 (Nat.le_of_ble_eq_true rfl) (by have := (isW64).lt; omega) ((sh_W isW64) _) (s_X10_passMinute isW64 r8 (IV_miN iv k) t8 (fun S91 h91 f91 => ?_))
      refine E_iinc (v := 1) dX11_sumDifferences_94 rfl (by decide) (by decide) ?_
      refine E_goto dX11_sumDifferences_97 ?_
      exact E.loc (by exact ⟨rfl, rfl, rfl, trivial⟩) (ih S91 _ (k + 1) (by rw [nI_1]) (by omega) (fun q hq => by rw [f91 13 (by omega) (by omega), b8 q hq, if_pos hq, lk_yes hcn]) h91 ((TRep.keep isW64 t8 f91 (mi_hi (IV_miN iv k)) (mi_un (IV_miN iv k) (Or.inr (Or.inl rfl))) (by rw [tN, miN_un iv (Or.inr (Or.inl rfl)) k]; exact tN_le iv))) (by rw [f91 _ (by omega) (by omega), c8 _ (by omega)]; exact hn) (by rw [f91 _ (by omega) (by omega), c8 _ (by omega)]; exact hc) (fun S9 a9 b9 => hq S9 a9 (((show WG S S8 from fun j _ _ _ _ a => c8 j a).tr f91.wg).tr b9)))
    · have hcn : c k = nobody := (hc k (by omega)).symm.trans gz
      refine E_if_eq dX11_sumDifferences_34 (fun _ => ?_) (fun c => absurd (by decide) c)
      refine E_aload_n dX11_sumDifferences_87 rfl ?_
      refine L_get fX11_90 dX11_sumDifferences_88 (by decide) sh_0 rfl ?_
      refine E_V0v vX11_211_10 dX11_sumDifferences_91 (Nat.le_of_ble_eq_true rfl) (by have := (isW64).lt; omega) ((sh_W isW64) _) (s_X10_passMinute isW64 hR (IV_miN iv k) hT (fun S91 h91 f91 => ?_))
      refine E_iinc (v := 1) dX11_sumDifferences_94 rfl (by decide) (by decide) ?_
      refine E_goto dX11_sumDifferences_97 ?_
      exact E.loc (by exact ⟨rfl, rfl, rfl, trivial⟩) (ih S91 _ (k + 1) (by rw [hx2, nI_1]) (by omega) (fun q hq => by rw [f91 13 (by omega) (by omega), hO q hq, lk_no hcn]) h91 ((TRep.keep isW64 hT f91 (mi_hi (IV_miN iv k)) (mi_un (IV_miN iv k) (Or.inr (Or.inl rfl))) (by rw [tN, miN_un iv (Or.inr (Or.inl rfl)) k]; exact tN_le iv))) (by rw [f91 _ (by omega) (by omega)]; exact hn) (by rw [f91 _ (by omega) (by omega)]; exact hc) (fun S9 a9 b9 => hq S9 a9 (f91.wg.tr b9)))
theorem s_X11_sumDifferences {Q : HP → Prop} (hR : WRep S 20 v) (iv : IV v) (hT : TRep S v) {m s n : Nat} (hm : v 1 = nI m) (hmm : mN v = m) (hm9 : m ≤ 9) (hs : s < 4) (h24 : n ≤ 24) {c : Nat → Int32} (hn : S (131 + 2 * s) 1 = nI n) (hc : ∀ j, j < 24 → S (131 + 2 * s + 1) j = c j) (hq : ∀ S', (∀ q, q < m → S' 13 q = lkF v c n q) → WG S S' → Q (lay Θ S')) : C Θ (d + 6) 0 0 yX11_sumDifferences cX11_sumDifferences 4 none [.ref (tb Θ + 0), .ref (tb Θ + (131 + 2 * s))] 183 (lay Θ S) (Qv Q) := by
  refine C_of rfl rfl (Nat.le_of_ble_eq_true rfl) ?_
  refine E_aload_n dX11_sumDifferences_0 rfl ?_
  refine L_get fX11_59 dX11_sumDifferences_1 (by decide) sh_0 rfl ?_
  refine E_ic (v := 0) dX11_sumDifferences_4 (by decide) ?_
  refine E_S2v sX11_340 dX11_sumDifferences_5 (Nat.le_of_ble_eq_true rfl) (s_J7_fill (k := 13) (by decide) sh_13 (by decide) (fun S5 a5 f5 => ?_))
  refine E_aload_n dX11_sumDifferences_8 rfl ?_
  refine L_get fX11_90 dX11_sumDifferences_9 (by decide) sh_0 rfl ?_
  refine E_aload_n dX11_sumDifferences_12 rfl ?_
  refine L_get fX11_83 dX11_sumDifferences_13 (by decide) sh_0 rfl ?_
  have g5 : WG S S5 := fun k _ _ _ _ h => f5 k h
  have r5 := hR.wg (by omega) g5
  have t5 := hT.wg (tN_le iv) g5
  refine E_V1v vX11_230_10 dX11_sumDifferences_16 (Nat.le_of_ble_eq_true rfl) (by have := (isW64).lt; omega) ((sh_W isW64) _) (s_X10_becomeAs isW64 isW20 (by decide) r5 hmm hm9 hm (law_ix r5 iv) (fun S16 h16 f16 => ?_))
  refine E_ic (v := 0) dX11_sumDifferences_19 (by decide) ?_
  refine E_istore_n dX11_sumDifferences_20 (by decide) ?_
  exact E.loc (by exact ⟨rfl, rfl, rfl, trivial⟩) (l_X11_sd21 iv hm hmm hm9 hs h24 (c := c) n S16 0 0 rfl (by omega) (fun q hq => by rw [f16 13 (by omega) (by omega), a5 q (by omega)]; rfl) h16 (t5.keep isW64 f16 eqHi.rf rfl (tN_le iv)) (by rw [f16 _ (by omega) (by omega), f5 _ (by omega)]; exact hn) (by rw [f16 _ (by omega) (by omega), f5 _ (by omega)]; exact hc) (fun S9 a9 b9 => hq S9 a9 ((g5.tr f16.wg).tr b9)))
theorem l_X11_like62 {Q : Int32 → HP → Prop} (hR : WRep S 20 v) {m : Nat} (hm : v 1 = nI m) (hmm : mN v = m) (hm9 : m ≤ 9) (hm0 : 0 < m) {z a1 : Int32} {g : Nat → Int32} (hO : ∀ q, q < m → S 13 q = g q) (hq : Q (if z = 0 then nI (lbF g (m - 1)) else g (lbF g (m - 1))) (lay Θ S)) : ∀ (f : Nat) (x3 x4 : Int32) (p : Nat), x3 = nI (lbF g p) → x4 = nI (p + 1) → p + 1 + f = m → E Θ (d + 7) 0 0 yX11_like cX11_like 5 (some .int) 0 0 183 (lay Θ S) 62 [(4, .int x4), (3, .int x3), (2, .int z), (1, .int a1), (0, .ref (tb Θ + 0))] [] (Qi Q) := by
  have hw : isW 20 := isW20
  intro f
  induction f with
  | zero =>
    intro x3 x4 p hx3 hx4 hi
    have hl := lb_le (f := g) p
    refine E_iload dX11_like_62 rfl ?_
    refine E_aload_n dX11_like_64 rfl ?_
    refine L_get fX11_83 dX11_like_65 (by decide) sh_0 rfl ?_
    refine W_get (j := 1) (i := 1) hR hw (by decide) fX11_106 dX11_like_68 ?_
    refine E_icmp_ge dX11_like_71 (fun _ => ?_) (fun c => absurd (by rw [hm, hx4]; exact nI_le (by omega) (by omega)) c)
    refine E_iload_n dX11_like_99 rfl ?_
    refine E_if_ne dX11_like_100 (fun c100 => ?_) (fun c100 => ?_)
    · refine E_aload_n dX11_like_107 rfl ?_
      refine L_get fX11_59 dX11_like_108 (by decide) sh_0 rfl ?_
      refine E_iload_n dX11_like_111 rfl ?_
      refine L_iald (j := lbF g p) dX11_like_112 (by decide) sh_13 hx3 (by omega) (by decide) ?_
      refine E_iret dX11_like_113 rfl rfl ?_
      rw [if_neg c100, ← show p = m - 1 by omega] at hq
      rw [hO _ (by omega)]
      exact hq
    · refine E_iload_n dX11_like_103 rfl ?_
      refine E_goto dX11_like_104 ?_
      refine E_iret dX11_like_113 rfl rfl ?_
      rw [if_pos c100, ← show p = m - 1 by omega] at hq
      rw [hx3]
      exact hq
  | succ f ih =>
    intro x3 x4 p hx3 hx4 hi
    have hl := lb_le (f := g) p
    refine E_iload dX11_like_62 rfl ?_
    refine E_aload_n dX11_like_64 rfl ?_
    refine L_get fX11_83 dX11_like_65 (by decide) sh_0 rfl ?_
    refine W_get (j := 1) (i := 1) hR hw (by decide) fX11_106 dX11_like_68 ?_
    refine E_icmp_ge dX11_like_71 (fun c => absurd c (by rw [hm]; exact ge_no (by omega) (by omega) hx4 (by omega))) (fun _ => ?_)
    refine E_aload_n dX11_like_74 rfl ?_
    refine L_get fX11_59 dX11_like_75 (by decide) sh_0 rfl ?_
    refine E_iload dX11_like_78 rfl ?_
    refine L_iald (j := p + 1) dX11_like_80 (by decide) sh_13 hx4 (by omega) (by decide) ?_
    rw [hO (p + 1) (by omega)]
    refine E_aload_n dX11_like_81 rfl ?_
    refine L_get fX11_59 dX11_like_82 (by decide) sh_0 rfl ?_
    refine E_iload_n dX11_like_85 rfl ?_
    refine L_iald (j := lbF g p) dX11_like_86 (by decide) sh_13 hx3 (by omega) (by decide) ?_
    rw [hO (lbF g p) (by omega)]
    refine E_icmp_ge dX11_like_87 (fun c87 => ?_) (fun c87 => ?_)
    · refine E_iinc (v := 1) dX11_like_93 rfl (by decide) (by decide) ?_
      refine E_goto dX11_like_96 ?_
      exact E.loc (by exact ⟨rfl, rfl, rfl, rfl, rfl, trivial⟩) (ih _ _ (p + 1) (by rw [lbF, if_neg (i_lt c87)]; exact hx3) (by rw [hx4, nI_1]) (by omega))
    · refine E_iload dX11_like_90 rfl ?_
      refine E_istore_n dX11_like_92 (by decide) ?_
      refine E_iinc (v := 1) dX11_like_93 rfl (by decide) (by decide) ?_
      refine E_goto dX11_like_96 ?_
      exact E.loc (by exact ⟨rfl, rfl, rfl, rfl, rfl, trivial⟩) (ih _ _ (p + 1) (by rw [lbF, if_pos (i_nle c87)]; exact hx4) (by rw [hx4, nI_1]) (by omega))
theorem s_X11_like {Q : Int32 → HP → Prop} (hR : WRep S 20 v) (iv : IV v) (hT : TRep S v) {X : SH} (hX : CSh S X) (oX : OSh X) {x z : Int32} (hq : ∀ S', WG S S' → Q (likeR X v x z) (lay Θ S')) : C Θ (d + 7) 0 0 yX11_like cX11_like 5 (some .int) [.ref (tb Θ + 0), .int x, .int z] 183 (lay Θ S) (Qi Q) := by
  refine C_of rfl rfl (Nat.le_of_ble_eq_true rfl) ?_
  have hw : isW 20 := isW20
  obtain ⟨m, hm9, hm, hpa⟩ := iv.1
  have hmm : mN v = m := by rw [mN, hm, nI_clamp (by omega)]
  refine E_iload_n dX11_like_0 rfl ?_
  refine E_S1i sX11_237 dX11_like_1 (Nat.le_of_ble_eq_true rfl) (s_X11_isSheet (fun g1 => ?_) (fun g1 => ?_))
  · obtain ⟨s, hs, es, is⟩ := ix_some (by omega) g1
    refine E_if_eq dX11_like_4 (fun c => absurd c (by decide)) (fun _ => ?_)
    refine E_iload_n dX11_like_7 rfl ?_
    refine E_ic (v := 0) dX11_like_8 (by decide) ?_
    refine E_ic (v := 1) dX11_like_9 (by decide) ?_
    refine E_S3i sX11_145 dX11_like_10 (Nat.le_of_ble_eq_true rfl) (s_X11_within (fun g2a g2b => ?_) (fun g2 => ?_))
    · refine E_if_ne dX11_like_13 (fun _ => ?_) (fun c => absurd c (by decide))
      refine E_aload_n dX11_like_19 rfl ?_
      refine L_get fX11_30 dX11_like_20 (by decide) sh_0 rfl ?_
      refine E_iload_n dX11_like_23 rfl ?_
      refine L_aald (j := s) dX11_like_24 (by decide) sh_5 rfl es hs (by decide) (if_pos hs) ?_
      refine E_V0i vX11_240_5 dX11_like_25 (Nat.le_of_ble_eq_true rfl) (by have := ((isR_s hs)).lt; omega) ((sh_R (isR_s hs)) _) (s_X5_isMissing (isR_s hs) (fun gm => ?_) (fun gm => ?_))
      · have gm : X.1 s < 0 := (so_neg oX hs).mpr ((hX s hs).1.symm.trans gm)
        refine E_if_eq dX11_like_28 (fun c => absurd c (by decide)) (fun _ => ?_)
        refine E_ldc dX11_like_31 kX11_244 ?_
        refine E_iret dX11_like_33 rfl rfl ?_
        rw [likeR, is, Option.elim, if_pos ⟨g2a, g2b⟩, if_pos gm] at hq
        exact hq S WG.rf
      · have gm : ¬ X.1 s < 0 := fun h => gm ((hX s hs).1.trans ((so_neg oX hs).mp h))
        refine E_if_eq dX11_like_28 (fun _ => ?_) (fun c => absurd (by decide) c)
        refine E_aload_n dX11_like_34 rfl ?_
        refine L_get fX11_83 dX11_like_35 (by decide) sh_0 rfl ?_
        refine W_get (j := 1) (i := 1) hR hw (by decide) fX11_106 dX11_like_38 ?_
        refine E_if_ne dX11_like_41 (fun c41 => ?_) (fun c41 => ?_)
        · have m0 : 0 < m := Nat.pos_of_ne_zero (fun e => c41 (by rw [hm, e]; rfl))
          refine E_aload_n dX11_like_47 rfl ?_
          refine E_aload_n dX11_like_48 rfl ?_
          refine L_get fX11_30 dX11_like_49 (by decide) sh_0 rfl ?_
          refine E_iload_n dX11_like_52 rfl ?_
          refine L_aald (j := s) dX11_like_53 (by decide) sh_5 rfl es hs (by decide) (if_pos hs) ?_
          refine E_V1v vX11_245_11 dX11_like_54 (Nat.le_of_ble_eq_true rfl) (by decide) (sh_0 _) (s_X11_sumDifferences hR iv hT hm hmm hm9 hs (oX s hs).2 (c := X.2.2 s) (hX s hs).2.1 (hX s hs).2.2 (fun S54 a54 g54 => ?_))
          refine E_ic (v := 0) dX11_like_57 (by decide) ?_
          refine E_istore_n dX11_like_58 (by decide) ?_
          refine E_ic (v := 1) dX11_like_59 (by decide) ?_
          refine E_istore dX11_like_60 (by decide) ?_
          rw [likeR, is, Option.elim, if_pos ⟨g2a, g2b⟩, if_neg gm, if_neg (show ¬ mN v = 0 by omega), hmm] at hq
          exact E.loc (by exact ⟨rfl, rfl, rfl, rfl, rfl, trivial⟩) (l_X11_like62 (hR.wg (by omega) g54) hm hmm hm9 m0 a54 (hq S54 g54) (m - 1) 0 1 0 rfl rfl (by omega))
        · refine E_ldc dX11_like_44 kX11_181 ?_
          refine E_iret dX11_like_46 rfl rfl ?_
          have m0 : m = 0 := nI_inj (by omega) (by omega) (hm.symm.trans c41)
          rw [likeR, is, Option.elim, if_pos ⟨g2a, g2b⟩, if_neg gm, if_pos (hmm.trans m0)] at hq
          exact hq S WG.rf
    · refine E_if_ne dX11_like_13 (fun c => absurd rfl c) (fun _ => ?_)
      refine E_ldc dX11_like_16 kX11_105 ?_
      refine E_iret dX11_like_18 rfl rfl ?_
      rw [likeR, is, Option.elim, if_neg g2] at hq
      exact hq S WG.rf
  · have is := ix_none (by omega) g1
    refine E_if_eq dX11_like_4 (fun _ => ?_) (fun c => absurd (by decide) c)
    refine E_ldc dX11_like_16 kX11_105 ?_
    refine E_iret dX11_like_18 rfl rfl ?_
    rw [likeR, is] at hq
    exact hq S WG.rf
end Lj
