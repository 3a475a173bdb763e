/-! pairs: the rest -/
theorem or_0 {x : Int32} : x ||| 0 = x := by
  apply Int32.toBitVec_inj.mp
  rw [Int32.toBitVec_or]
  simp
theorem soR_0 {v : WV} {p o : Nat} : soR v p o 0 = (soF v p o 6).1 := if_pos (Or.inr rfl)
theorem pr_t {v : WV} {bk : Int32} {p o : Nat} (h1 : p < o) (h2 : o < mN v) (h3 : v (16 + 9 * p) = bk) (h4 : v (16 + 9 * o) = bk) (h5 : ¬ (soF v p o 6).1 = nobody) : prF v bk p o = true := decide_eq_true ⟨h1, h2, h3, h4, h5⟩
theorem pr_f {v : WV} {bk : Int32} {p o : Nat} (h : ¬ (p < o ∧ o < mN v ∧ v (16 + 9 * p) = bk ∧ v (16 + 9 * o) = bk ∧ ¬ (soF v p o 6).1 = nobody)) : prF v bk p o = false := decide_eq_false h
theorem sm_t {t : Nat → Bool} {n : Nat} (h : t n = true) : smF t (n + 1) = smF t n + 2 ^ n := by rw [smF, if_pos h]
theorem sm_f {t : Nat → Bool} {n : Nat} (h : t n = false) : smF t (n + 1) = smF t n := by rw [smF, h]; rfl
theorem div9 (k : Nat) (hk : k < 81) : nI k / 9 = nI (k / 9) := pk_div (d := 9) (by omega) (by omega) (by omega)
theorem rem9 (k : Nat) (hk : k < 81) : nI k - nI k / 9 * 9 = nI (k % 9) := pk_rem (d := 9) (by omega) (by omega) (by omega)
def PI (S : SS) (v : WV) (bk : Int32) (n : Nat) : Prop := ∀ j, j < n → S 164 j = if prF v bk (j / 9) (j % 9) = true then 1 else 0
theorem PI.put {S S' : SS} {v : WV} {bk x : Int32} {n : Nat} (h : PI S v bk n) (e : S' 164 = upd (S 164) n x) (hx : x = if prF v bk (n / 9) (n % 9) = true then 1 else 0) : PI S' v bk (n + 1) := by
  intro j hj
  rw [e]
  by_cases c : j = n
  · rw [c, pk_us, hx]
  · rw [pk_un c]
    exact h j (by omega)
theorem PI.mh {S S' : SS} {v : WV} {bk : Int32} {n : Nat} (h : PI S v bk n) (hf : MH S S') : PI S' v bk n := by
  intro j hj
  rw [hf 164 (by decide) (by decide) (by decide) (by decide)]
  exact h j hj
section Pq
variable {Θ : Th} {d : Nat} {S : SS} {v : WV}
theorem l_X12_pairs16 {Q : Int32 → HP → Prop} (hv : S 160 = v) {m : Nat} (hm : v 1 = nI m) (hm9 : m ≤ 9) {bk : Int32} (K : ∀ x3, E Θ (d + 10) 0 0 yX12_pairs cX12_pairs 5 (some .int) 0 0 183 (lay Θ S) 52 [(3, .int x3), (2, .int (nI (smF (bkF v bk) m))), (1, .int bk), (0, .ref (tb Θ + 159))] [] (Qi Q)) : ∀ (f : Nat) (x2 x3 : Int32) (i : Nat), x2 = nI (smF (bkF v bk) i) → x3 = nI i → i + f = m → E Θ (d + 10) 0 0 yX12_pairs cX12_pairs 5 (some .int) 0 0 183 (lay Θ S) 16 [(3, .int x3), (2, .int x2), (1, .int bk), (0, .ref (tb Θ + 159))] [] (Qi Q) := by
  intro f
  induction f with
  | zero =>
    intro x2 x3 i hx2 hx3 hi
    refine E_iload_n dX12_pairs_16 rfl ?_
    refine E_aload_n dX12_pairs_17 rfl ?_
    refine L_get fX12_9 dX12_pairs_18 (by decide) sh_159 rfl ?_
    refine E_ic (v := 1) dX12_pairs_21 (by decide) ?_
    refine N_iald (j := 1) dX12_pairs_22 rfl (by decide) hv ?_
    refine E_icmp_ge dX12_pairs_23 (fun _ => ?_) (fun c => absurd (by rw [hm, hx3]; exact nI_le (by omega) (by omega)) c)
    rw [hx2, show i = m by omega]
    exact E.loc (by exact ⟨rfl, rfl, rfl, rfl, trivial⟩) (K x3)
  | succ f ih =>
    intro x2 x3 i hx2 hx3 hi
    refine E_iload_n dX12_pairs_16 rfl ?_
    refine E_aload_n dX12_pairs_17 rfl ?_
    refine L_get fX12_9 dX12_pairs_18 (by decide) sh_159 rfl ?_
    refine E_ic (v := 1) dX12_pairs_21 (by decide) ?_
    refine N_iald (j := 1) dX12_pairs_22 rfl (by decide) hv ?_
    refine E_icmp_ge dX12_pairs_23 (fun c => absurd c (fun c => absurd ((nI_leI (by omega) (by omega)).mp (show nI m ≤ nI i by rw [← hm, ← hx3]; exact c)) (by omega))) (fun _ => ?_)
    refine E_iload_n dX12_pairs_26 rfl ?_
    refine E_aload_n dX12_pairs_27 rfl ?_
    refine E_iload_n dX12_pairs_28 rfl ?_
    refine E_ic (v := 1) dX12_pairs_29 (by decide) ?_
    refine E_V2i vX12_85_12 dX12_pairs_30 (Nat.le_of_ble_eq_true rfl) (by decide) (sh_159 _) (s_X12_of hv i 1 (16 + 9 * i) hx3 rfl (by omega) (by omega) ?_)
    refine E_iload_n dX12_pairs_33 rfl ?_
    refine E_icmp_ne dX12_pairs_34 (fun c34 => ?_) (fun c34 => ?_)
    · refine E_ic (v := 0) dX12_pairs_43 (by decide) ?_
      refine E_ior dX12_pairs_44 ?_
      refine E_istore_n dX12_pairs_45 (by decide) ?_
      refine E_iinc (v := 1) dX12_pairs_46 rfl (by decide) (by decide) ?_
      refine E_goto dX12_pairs_49 ?_
      rw [hx2, or_0]
      exact E.loc (by exact ⟨rfl, rfl, rfl, rfl, trivial⟩) (ih _ _ (i + 1) (by rw [sm_f (decide_eq_false c34)]) (by rw [hx3, nI_1]) (by omega))
    · refine E_ic (v := 1) dX12_pairs_37 (by decide) ?_
      refine E_iload_n dX12_pairs_38 rfl ?_
      refine E_ishl dX12_pairs_39 ?_
      refine E_goto dX12_pairs_40 ?_
      refine E_ior dX12_pairs_44 ?_
      refine E_istore_n dX12_pairs_45 (by decide) ?_
      refine E_iinc (v := 1) dX12_pairs_46 rfl (by decide) (by decide) ?_
      refine E_goto dX12_pairs_49 ?_
      rw [hx2, hx3, bo_or (sm_5 (by omega)) (by omega) (sm_lt i)]
      exact E.loc (by exact ⟨rfl, rfl, rfl, rfl, trivial⟩) (ih _ _ (i + 1) (by rw [sm_t (decide_eq_true c34)]) (by rw [nI_1]) (by omega))
theorem l_X12_pairs54 {Q : Int32 → HP → Prop} (iv : IV v) {m g : Nat} (hm : v 1 = nI m) (hmm : mN v = m) (hm9 : m ≤ 9) {bk : Int32} (hg : g < 512) (hgb : g = smF (bkF v bk) m) : ∀ (f : Nat) (S : SS) (x3 : Int32) (k : Nat), x3 = nI k → k + f = 81 → S 160 = v → PI S v bk k → (∀ S', S' 160 = v → PI S' v bk 81 → MP S S' → ∀ x3, E Θ (d + 10) 0 0 yX12_pairs cX12_pairs 5 (some .int) 0 0 183 (lay Θ S') 137 [(3, .int x3), (2, .int (nI g)), (1, .int bk), (0, .ref (tb Θ + 159))] [] (Qi Q)) → E Θ (d + 10) 0 0 yX12_pairs cX12_pairs 5 (some .int) 0 0 183 (lay Θ S) 54 [(3, .int x3), (2, .int (nI g)), (1, .int bk), (0, .ref (tb Θ + 159))] [] (Qi Q) := by
  intro f
  induction f with
  | zero =>
    intro S x3 k hx3 hi hv hP K
    refine E_iload_n dX12_pairs_54 rfl ?_
    refine E_bipush (v := 81) dX12_pairs_55 (by decide) ?_
    refine E_icmp_ge dX12_pairs_57 (fun _ => ?_) (fun c => absurd (by rw [hx3]; exact nI_le (a := 81) (by omega) (by omega)) c)
    obtain rfl : k = 81 := by omega
    exact E.loc (by exact ⟨rfl, rfl, rfl, rfl, trivial⟩) (K S hv hP MP.rf x3)
  | succ f ih =>
    intro S x3 k hx3 hi hv hP K
    have hk : k < 81 := by omega
    refine E_iload_n dX12_pairs_54 rfl ?_
    rw [hx3]
    refine E_bipush (v := 81) dX12_pairs_55 (by decide) ?_
    refine E_icmp_ge dX12_pairs_57 (fun c => absurd c (fun c => absurd ((nI_leI (a := 81) (by omega) (by omega)).mp (show nI 81 ≤ nI k from c)) (by omega))) (fun _ => ?_)
    refine E_iload_n dX12_pairs_60 rfl ?_
    refine E_bipush (v := 9) dX12_pairs_61 (by decide) ?_
    refine E_idiv dX12_pairs_63 (by decide) ?_
    rw [div9 k hk]
    refine E_iload_n dX12_pairs_64 rfl ?_
    refine E_bipush (v := 9) dX12_pairs_65 (by decide) ?_
    refine E_irem dX12_pairs_67 (by decide) ?_
    rw [rem9 k hk]
    refine E_icmp_ge dX12_pairs_68 (fun c68 => ?_) (fun c68 => ?_)
    · refine E_ic (v := 0) dX12_pairs_94 (by decide) ?_
      refine E_istore dX12_pairs_95 (by decide) ?_
      refine E_aload_n dX12_pairs_97 rfl ?_
      refine L_get fX12_22 dX12_pairs_98 (by decide) sh_159 rfl ?_
      refine E_iload_n dX12_pairs_101 rfl ?_
      refine E_iload dX12_pairs_102 rfl ?_
      refine E_if_eq dX12_pairs_104 (fun _ => ?_) (fun c => absurd (by decide) c)
      refine E_ic (v := 0) dX12_pairs_129 (by decide) ?_
      refine L_zast (j := k) dX12_pairs_130 (by decide) sh_164 rfl hk (by decide) ?_
      refine E_iinc (v := 1) dX12_pairs_131 rfl (by decide) (by decide) ?_
      refine E_goto dX12_pairs_134 ?_
      exact E.loc (by exact ⟨rfl, rfl, rfl, rfl, trivial⟩) (ih _ _ (k + 1) (by rw [nI_1]) (by omega) ((by rw [wr_ne (by decide)]; exact hv)) (hP.put (x := 0) (by rw [wr_at]; rfl) (by rw [pr_f (fun h => absurd ((nI_leI (by omega) (by omega)).mp c68) (by omega))]; rfl)) (fun S9 a9 p9 b9 => K S9 a9 p9 ((show MP S _ from (fun j a b c e f => wr_ne c)).tr b9)))
    · refine E_iload_n dX12_pairs_71 rfl ?_
      refine E_iload_n dX12_pairs_72 rfl ?_
      refine E_bipush (v := 9) dX12_pairs_73 (by decide) ?_
      refine E_idiv dX12_pairs_75 (by decide) ?_
      rw [div9 k hk]
      refine E_ishr dX12_pairs_76 ?_
      refine E_iload_n dX12_pairs_77 rfl ?_
      refine E_iload_n dX12_pairs_78 rfl ?_
      refine E_bipush (v := 9) dX12_pairs_79 (by decide) ?_
      refine E_irem dX12_pairs_81 (by decide) ?_
      rw [rem9 k hk]
      refine E_ishr dX12_pairs_82 ?_
      refine E_iand dX12_pairs_83 ?_
      refine E_ic (v := 1) dX12_pairs_84 (by decide) ?_
      refine E_iand dX12_pairs_85 ?_
      refine E_ic (v := 1) dX12_pairs_86 (by decide) ?_
      refine E_icmp_ne dX12_pairs_87 (fun c87 => ?_) (fun c87 => ?_)
      · refine E_ic (v := 0) dX12_pairs_94 (by decide) ?_
        refine E_istore dX12_pairs_95 (by decide) ?_
        refine E_aload_n dX12_pairs_97 rfl ?_
        refine L_get fX12_22 dX12_pairs_98 (by decide) sh_159 rfl ?_
        refine E_iload_n dX12_pairs_101 rfl ?_
        refine E_iload dX12_pairs_102 rfl ?_
        refine E_if_eq dX12_pairs_104 (fun _ => ?_) (fun c => absurd (by decide) c)
        refine E_ic (v := 0) dX12_pairs_129 (by decide) ?_
        refine L_zast (j := k) dX12_pairs_130 (by decide) sh_164 rfl hk (by decide) ?_
        refine E_iinc (v := 1) dX12_pairs_131 rfl (by decide) (by decide) ?_
        refine E_goto dX12_pairs_134 ?_
        exact E.loc (by exact ⟨rfl, rfl, rfl, rfl, trivial⟩) (ih _ _ (k + 1) (by rw [nI_1]) (by omega) ((by rw [wr_ne (by decide)]; exact hv)) (hP.put (x := 0) (by rw [wr_at]; rfl) (by rw [pr_f (fun h => c87 ((bo_two hg (by omega) (by omega)).mpr (by rw [hgb, bo_sm (by omega) m hm9, bo_sm (by omega) m hm9, bkF, bkF, decide_eq_true h.2.2.1, decide_eq_true h.2.2.2.1, decide_eq_true (show k / 9 < m by omega), decide_eq_true (show k % 9 < m by omega)]; rfl)))]; rfl)) (fun S9 a9 p9 b9 => K S9 a9 p9 ((show MP S _ from (fun j a b c e f => wr_ne c)).tr b9)))
      · refine E_ic (v := 1) dX12_pairs_90 (by decide) ?_
        refine E_goto dX12_pairs_91 ?_
        refine E_istore dX12_pairs_95 (by decide) ?_
        refine E_aload_n dX12_pairs_97 rfl ?_
        refine L_get fX12_22 dX12_pairs_98 (by decide) sh_159 rfl ?_
        refine E_iload_n dX12_pairs_101 rfl ?_
        refine E_iload dX12_pairs_102 rfl ?_
        refine E_if_eq dX12_pairs_104 (fun c => absurd c (by decide)) (fun _ => ?_)
        have hb2 := (bo_two hg (by omega) (by omega)).mp c87
        rw [hgb, bo_sm (by omega) m hm9, bo_sm (by omega) m hm9] at hb2
        obtain ⟨h1, h2⟩ := Bool.and_eq_true_iff.mp hb2
        obtain ⟨h1a, h1b⟩ := Bool.and_eq_true_iff.mp h1
        obtain ⟨h2a, h2b⟩ := Bool.and_eq_true_iff.mp h2
        have h1a := of_decide_eq_true h1a
        have h2a := of_decide_eq_true h2a
        have h1b := of_decide_eq_true h1b
        have h2b := of_decide_eq_true h2b
        have hlt : k / 9 < k % 9 := (nI_ltI (by omega) (by omega)).mp (i_nle c68)
        refine E_aload_n dX12_pairs_107 rfl ?_
        refine E_iload_n dX12_pairs_108 rfl ?_
        refine E_bipush (v := 9) dX12_pairs_109 (by decide) ?_
        refine E_idiv dX12_pairs_111 (by decide) ?_
        rw [div9 k hk]
        refine E_iload_n dX12_pairs_112 rfl ?_
        refine E_bipush (v := 9) dX12_pairs_113 (by decide) ?_
        refine E_irem dX12_pairs_115 (by decide) ?_
        rw [rem9 k hk]
        refine E_ic (v := 0) dX12_pairs_116 (by decide) ?_
        refine E_V3i vX12_190_12 dX12_pairs_117 (Nat.le_of_ble_eq_true rfl) (by decide) (sh_159 _) (s_X12_soonest hv iv hmm hm9 (show k / 9 < m by omega) (show k % 9 < m by omega) (by omega) (fun S117 h117 f117 => ?_))
        rw [soR_0]
        refine E_ldc dX12_pairs_120 kX12_136 ?_
        refine E_icmp_eq dX12_pairs_122 (fun c122 => ?_) (fun c122 => ?_)
        · refine E_ic (v := 0) dX12_pairs_129 (by decide) ?_
          refine L_zast (j := k) dX12_pairs_130 (by decide) sh_164 rfl hk (by decide) ?_
          refine E_iinc (v := 1) dX12_pairs_131 rfl (by decide) (by decide) ?_
          refine E_goto dX12_pairs_134 ?_
          exact E.loc (by exact ⟨rfl, rfl, rfl, rfl, trivial⟩) (ih _ _ (k + 1) (by rw [nI_1]) (by omega) ((by rw [wr_ne (by decide)]; exact h117)) ((hP.mh f117).put (x := 0) (by rw [wr_at]; rfl) (by rw [pr_f (fun h => h.2.2.2.2 c122)]; rfl)) (fun S9 a9 p9 b9 => K S9 a9 p9 ((f117.mp.tr (show MP S117 _ from (fun j a b c e f => wr_ne c))).tr b9)))
        · refine E_ic (v := 1) dX12_pairs_125 (by decide) ?_
          refine E_goto dX12_pairs_126 ?_
          refine L_zast (j := k) dX12_pairs_130 (by decide) sh_164 rfl hk (by decide) ?_
          refine E_iinc (v := 1) dX12_pairs_131 rfl (by decide) (by decide) ?_
          refine E_goto dX12_pairs_134 ?_
          exact E.loc (by exact ⟨rfl, rfl, rfl, rfl, trivial⟩) (ih _ _ (k + 1) (by rw [nI_1]) (by omega) ((by rw [wr_ne (by decide)]; exact h117)) ((hP.mh f117).put (x := 1) (by rw [wr_at]; rfl) (by rw [pr_t hlt (by omega) h1b h2b c122]; rfl)) (fun S9 a9 p9 b9 => K S9 a9 p9 ((f117.mp.tr (show MP S117 _ from (fun j a b c e f => wr_ne c))).tr b9)))
theorem s_X12_pairs {Q : Int32 → HP → Prop} (hv : S 160 = v) (iv : IV v) {x : Int32} (hq : ∀ S', S' 160 = v → MP S S' → Q (pairsR v x) (lay Θ S')) : C Θ (d + 10) 0 0 yX12_pairs cX12_pairs 5 (some .int) [.ref (tb Θ + 159), .int x] 183 (lay Θ S) (Qi Q) := by
  refine C_of rfl rfl (Nat.le_of_ble_eq_true rfl) ?_
  obtain ⟨m, hm9, hm, hpa⟩ := iv.1
  have hmm : mN v = m := by rw [mN, hm, nI_clamp (by omega)]
  refine E_iload_n dX12_pairs_0 rfl ?_
  refine E_ic (v := 0) dX12_pairs_1 (by decide) ?_
  refine E_ic (v := 1) dX12_pairs_2 (by decide) ?_
  refine E_S3i sX12_81 dX12_pairs_3 (Nat.le_of_ble_eq_true rfl) (s_X12_in (fun g3a g3b => ?_) (fun g3 => ?_))
  · obtain ⟨b, hb2, eb, ib⟩ := ix_some (by omega) (isIx_le (n := 1) (by decide) g3a g3b)
    refine E_if_ne dX12_pairs_6 (fun _ => ?_) (fun c => absurd c (by decide))
    refine E_ic (v := 0) dX12_pairs_12 (by decide) ?_
    refine E_istore_n dX12_pairs_13 (by decide) ?_
    refine E_ic (v := 0) dX12_pairs_14 (by decide) ?_
    refine E_istore_n dX12_pairs_15 (by decide) ?_
    refine E.loc (ls' := [(3, .int 0), (2, .int 0), (1, .int x), (0, .ref (tb Θ + 159))]) (by exact ⟨rfl, rfl, rfl, rfl, trivial⟩) (l_X12_pairs16 hv hm hm9 (fun x3 => ?_) m 0 0 0 rfl rfl (by omega))
    refine E_ic (v := 0) dX12_pairs_52 (by decide) ?_
    refine E_istore_n dX12_pairs_53 (by decide) ?_
    refine E.loc (ls' := [(3, .int 0), (2, .int (nI (smF (bkF v x) m))), (1, .int x), (0, .ref (tb Θ + 159))]) (by exact ⟨rfl, rfl, rfl, rfl, trivial⟩) (l_X12_pairs54 iv hm hmm hm9 (sm_5 hm9) rfl 81 S 0 0 rfl (by omega) hv (fun j hj => absurd hj (by omega)) (fun S9 a9 p9 b9 x3 => ?_))
    refine E_aload_n dX12_pairs_137 rfl ?_
    refine E_iload_n dX12_pairs_138 rfl ?_
    refine E_V1i vX12_193_12 dX12_pairs_139 (Nat.le_of_ble_eq_true rfl) (by decide) (sh_159 _) (s_X12_pairsOf (pr := prF v x) (fun p o hp ho => by rw [p9 _ (by omega), show (9 * p + o) / 9 = p by omega, show (9 * p + o) % 9 = o by omega]) 9 d (smF (bkF v x) m) _ (sm_5 hm9) (fun k hk => absurd hk (by omega)) (by omega) ?_)
    refine E_iret dX12_pairs_142 rfl rfl ?_
    rw [pairsR, hmm, ib, Option.elim, pairs_eq hmm hm9] at hq
    exact hq S9 a9 b9
  · have ib := ix_none (n := 2) (by omega) (fun hh => g3 (isIx_back (n := 1) (by decide) hh))
    refine E_if_ne dX12_pairs_6 (fun c => absurd rfl c) (fun _ => ?_)
    refine E_ldc dX12_pairs_9 kX12_107 ?_
    refine E_iret dX12_pairs_11 rfl rfl ?_
    rw [pairsR, ib] at hq
    exact hq S hv MP.rf
theorem s_J6_ntz {Q : Int32 → HP → Prop} {g : Nat} (hg : g < 512) (h0 : g ≠ 0) (hq : Q (nI (lsb g)) (lay Θ S)) : C Θ d 0 0 yJ6_numberOfTrailingZeros_0f7a4 cJ6_numberOfTrailingZeros_0f7a4 2 (some .int) [.int (nI g)] 183 (lay Θ S) (Qi Q) := by
  refine C_of rfl rfl (Nat.le_of_ble_eq_true rfl) ?_
  obtain ⟨-, hb, hl, hz⟩ := bo_low hg h0
  refine E_iload_n dJ6_numberOfTrailingZeros_0f7a4_0 rfl ?_
  refine E_ic (v := (-1)) dJ6_numberOfTrailingZeros_0f7a4_1 (by decide) ?_
  refine E_ixor dJ6_numberOfTrailingZeros_0f7a4_2 ?_
  refine E_iload_n dJ6_numberOfTrailingZeros_0f7a4_3 rfl ?_
  refine E_ic (v := 1) dJ6_numberOfTrailingZeros_0f7a4_4 (by decide) ?_
  refine E_isub dJ6_numberOfTrailingZeros_0f7a4_5 ?_
  refine E_iand dJ6_numberOfTrailingZeros_0f7a4_6 ?_
  rw [hz]
  refine E_istore_n dJ6_numberOfTrailingZeros_0f7a4_7 (by decide) ?_
  generalize hp : lsb g = p at hl hq ⊢
  rcases (show p = 0 ∨ p = 1 ∨ p = 2 ∨ p = 3 ∨ p = 4 ∨ p = 5 ∨ p = 6 ∨ p = 7 ∨ p = 8 by omega) with rfl | rfl | rfl | rfl | rfl | rfl | rfl | rfl | rfl
  · refine E_iload_n dJ6_numberOfTrailingZeros_0f7a4_8 rfl ?_
    refine E_if_gt dJ6_numberOfTrailingZeros_0f7a4_9 (fun c => absurd c (by decide)) (fun _ => ?_)
    refine E_iload_n dJ6_numberOfTrailingZeros_0f7a4_12 rfl ?_
    refine E_bipush (v := 32) dJ6_numberOfTrailingZeros_0f7a4_13 (by decide) ?_
    refine E_iand dJ6_numberOfTrailingZeros_0f7a4_15 ?_
    refine E_iret dJ6_numberOfTrailingZeros_0f7a4_16 rfl rfl ?_
    exact q_eq hq (by decide)
  · refine E_iload_n dJ6_numberOfTrailingZeros_0f7a4_8 rfl ?_
    refine E_if_gt dJ6_numberOfTrailingZeros_0f7a4_9 (fun _ => ?_) (fun c => absurd (by decide) c)
    refine E_ic (v := 1) dJ6_numberOfTrailingZeros_0f7a4_17 (by decide) ?_
    refine E_istore_n dJ6_numberOfTrailingZeros_0f7a4_18 (by decide) ?_
    refine E_iload_n dJ6_numberOfTrailingZeros_0f7a4_19 rfl ?_
    refine E_ldcw dJ6_numberOfTrailingZeros_0f7a4_20 kJ6_264 ?_
    refine E_icmp_le dJ6_numberOfTrailingZeros_0f7a4_23 (fun _ => ?_) (fun c => absurd (by decide) c)
    refine E_iload_n dJ6_numberOfTrailingZeros_0f7a4_34 rfl ?_
    refine E_sipush (v := 256) dJ6_numberOfTrailingZeros_0f7a4_35 (by decide) ?_
    refine E_icmp_le dJ6_numberOfTrailingZeros_0f7a4_38 (fun _ => ?_) (fun c => absurd (by decide) c)
    refine E_iload_n dJ6_numberOfTrailingZeros_0f7a4_49 rfl ?_
    refine E_bipush (v := 16) dJ6_numberOfTrailingZeros_0f7a4_50 (by decide) ?_
    refine E_icmp_le dJ6_numberOfTrailingZeros_0f7a4_52 (fun _ => ?_) (fun c => absurd (by decide) c)
    refine E_iload_n dJ6_numberOfTrailingZeros_0f7a4_62 rfl ?_
    refine E_ic (v := 4) dJ6_numberOfTrailingZeros_0f7a4_63 (by decide) ?_
    refine E_icmp_le dJ6_numberOfTrailingZeros_0f7a4_64 (fun _ => ?_) (fun c => absurd (by decide) c)
    refine E_iload_n dJ6_numberOfTrailingZeros_0f7a4_74 rfl ?_
    refine E_iload_n dJ6_numberOfTrailingZeros_0f7a4_75 rfl ?_
    refine E_ic (v := 1) dJ6_numberOfTrailingZeros_0f7a4_76 (by decide) ?_
    refine E_iushr dJ6_numberOfTrailingZeros_0f7a4_77 ?_
    refine E_iadd dJ6_numberOfTrailingZeros_0f7a4_78 ?_
    refine E_iret dJ6_numberOfTrailingZeros_0f7a4_79 rfl rfl ?_
    exact q_eq hq (by decide)
  · refine E_iload_n dJ6_numberOfTrailingZeros_0f7a4_8 rfl ?_
    refine E_if_gt dJ6_numberOfTrailingZeros_0f7a4_9 (fun _ => ?_) (fun c => absurd (by decide) c)
    refine E_ic (v := 1) dJ6_numberOfTrailingZeros_0f7a4_17 (by decide) ?_
    refine E_istore_n dJ6_numberOfTrailingZeros_0f7a4_18 (by decide) ?_
    refine E_iload_n dJ6_numberOfTrailingZeros_0f7a4_19 rfl ?_
    refine E_ldcw dJ6_numberOfTrailingZeros_0f7a4_20 kJ6_264 ?_
    refine E_icmp_le dJ6_numberOfTrailingZeros_0f7a4_23 (fun _ => ?_) (fun c => absurd (by decide) c)
    refine E_iload_n dJ6_numberOfTrailingZeros_0f7a4_34 rfl ?_
    refine E_sipush (v := 256) dJ6_numberOfTrailingZeros_0f7a4_35 (by decide) ?_
    refine E_icmp_le dJ6_numberOfTrailingZeros_0f7a4_38 (fun _ => ?_) (fun c => absurd (by decide) c)
    refine E_iload_n dJ6_numberOfTrailingZeros_0f7a4_49 rfl ?_
    refine E_bipush (v := 16) dJ6_numberOfTrailingZeros_0f7a4_50 (by decide) ?_
    refine E_icmp_le dJ6_numberOfTrailingZeros_0f7a4_52 (fun _ => ?_) (fun c => absurd (by decide) c)
    refine E_iload_n dJ6_numberOfTrailingZeros_0f7a4_62 rfl ?_
    refine E_ic (v := 4) dJ6_numberOfTrailingZeros_0f7a4_63 (by decide) ?_
    refine E_icmp_le dJ6_numberOfTrailingZeros_0f7a4_64 (fun _ => ?_) (fun c => absurd (by decide) c)
    refine E_iload_n dJ6_numberOfTrailingZeros_0f7a4_74 rfl ?_
    refine E_iload_n dJ6_numberOfTrailingZeros_0f7a4_75 rfl ?_
    refine E_ic (v := 1) dJ6_numberOfTrailingZeros_0f7a4_76 (by decide) ?_
    refine E_iushr dJ6_numberOfTrailingZeros_0f7a4_77 ?_
    refine E_iadd dJ6_numberOfTrailingZeros_0f7a4_78 ?_
    refine E_iret dJ6_numberOfTrailingZeros_0f7a4_79 rfl rfl ?_
    exact q_eq hq (by decide)
  · refine E_iload_n dJ6_numberOfTrailingZeros_0f7a4_8 rfl ?_
    refine E_if_gt dJ6_numberOfTrailingZeros_0f7a4_9 (fun _ => ?_) (fun c => absurd (by decide) c)
    refine E_ic (v := 1) dJ6_numberOfTrailingZeros_0f7a4_17 (by decide) ?_
    refine E_istore_n dJ6_numberOfTrailingZeros_0f7a4_18 (by decide) ?_
    refine E_iload_n dJ6_numberOfTrailingZeros_0f7a4_19 rfl ?_
    refine E_ldcw dJ6_numberOfTrailingZeros_0f7a4_20 kJ6_264 ?_
    refine E_icmp_le dJ6_numberOfTrailingZeros_0f7a4_23 (fun _ => ?_) (fun c => absurd (by decide) c)
    refine E_iload_n dJ6_numberOfTrailingZeros_0f7a4_34 rfl ?_
    refine E_sipush (v := 256) dJ6_numberOfTrailingZeros_0f7a4_35 (by decide) ?_
    refine E_icmp_le dJ6_numberOfTrailingZeros_0f7a4_38 (fun _ => ?_) (fun c => absurd (by decide) c)
    refine E_iload_n dJ6_numberOfTrailingZeros_0f7a4_49 rfl ?_
    refine E_bipush (v := 16) dJ6_numberOfTrailingZeros_0f7a4_50 (by decide) ?_
    refine E_icmp_le dJ6_numberOfTrailingZeros_0f7a4_52 (fun _ => ?_) (fun c => absurd (by decide) c)
    refine E_iload_n dJ6_numberOfTrailingZeros_0f7a4_62 rfl ?_
    refine E_ic (v := 4) dJ6_numberOfTrailingZeros_0f7a4_63 (by decide) ?_
    refine E_icmp_le dJ6_numberOfTrailingZeros_0f7a4_64 (fun c => absurd c (by decide)) (fun _ => ?_)
    refine E_iinc (v := 2) dJ6_numberOfTrailingZeros_0f7a4_67 rfl (by decide) (by decide) ?_
    refine E_iload_n dJ6_numberOfTrailingZeros_0f7a4_70 rfl ?_
    refine E_ic (v := 2) dJ6_numberOfTrailingZeros_0f7a4_71 (by decide) ?_
    refine E_iushr dJ6_numberOfTrailingZeros_0f7a4_72 ?_
    refine E_istore_n dJ6_numberOfTrailingZeros_0f7a4_73 (by decide) ?_
    refine E_iload_n dJ6_numberOfTrailingZeros_0f7a4_74 rfl ?_
    refine E_iload_n dJ6_numberOfTrailingZeros_0f7a4_75 rfl ?_
    refine E_ic (v := 1) dJ6_numberOfTrailingZeros_0f7a4_76 (by decide) ?_
    refine E_iushr dJ6_numberOfTrailingZeros_0f7a4_77 ?_
    refine E_iadd dJ6_numberOfTrailingZeros_0f7a4_78 ?_
    refine E_iret dJ6_numberOfTrailingZeros_0f7a4_79 rfl rfl ?_
    exact q_eq hq (by decide)
  · refine E_iload_n dJ6_numberOfTrailingZeros_0f7a4_8 rfl ?_
    refine E_if_gt dJ6_numberOfTrailingZeros_0f7a4_9 (fun _ => ?_) (fun c => absurd (by decide) c)
    refine E_ic (v := 1) dJ6_numberOfTrailingZeros_0f7a4_17 (by decide) ?_
    refine E_istore_n dJ6_numberOfTrailingZeros_0f7a4_18 (by decide) ?_
    refine E_iload_n dJ6_numberOfTrailingZeros_0f7a4_19 rfl ?_
    refine E_ldcw dJ6_numberOfTrailingZeros_0f7a4_20 kJ6_264 ?_
    refine E_icmp_le dJ6_numberOfTrailingZeros_0f7a4_23 (fun _ => ?_) (fun c => absurd (by decide) c)
    refine E_iload_n dJ6_numberOfTrailingZeros_0f7a4_34 rfl ?_
    refine E_sipush (v := 256) dJ6_numberOfTrailingZeros_0f7a4_35 (by decide) ?_
    refine E_icmp_le dJ6_numberOfTrailingZeros_0f7a4_38 (fun _ => ?_) (fun c => absurd (by decide) c)
    refine E_iload_n dJ6_numberOfTrailingZeros_0f7a4_49 rfl ?_
    refine E_bipush (v := 16) dJ6_numberOfTrailingZeros_0f7a4_50 (by decide) ?_
    refine E_icmp_le dJ6_numberOfTrailingZeros_0f7a4_52 (fun _ => ?_) (fun c => absurd (by decide) c)
    refine E_iload_n dJ6_numberOfTrailingZeros_0f7a4_62 rfl ?_
    refine E_ic (v := 4) dJ6_numberOfTrailingZeros_0f7a4_63 (by decide) ?_
    refine E_icmp_le dJ6_numberOfTrailingZeros_0f7a4_64 (fun c => absurd c (by decide)) (fun _ => ?_)
    refine E_iinc (v := 2) dJ6_numberOfTrailingZeros_0f7a4_67 rfl (by decide) (by decide) ?_
    refine E_iload_n dJ6_numberOfTrailingZeros_0f7a4_70 rfl ?_
    refine E_ic (v := 2) dJ6_numberOfTrailingZeros_0f7a4_71 (by decide) ?_
    refine E_iushr dJ6_numberOfTrailingZeros_0f7a4_72 ?_
    refine E_istore_n dJ6_numberOfTrailingZeros_0f7a4_73 (by decide) ?_
    refine E_iload_n dJ6_numberOfTrailingZeros_0f7a4_74 rfl ?_
    refine E_iload_n dJ6_numberOfTrailingZeros_0f7a4_75 rfl ?_
    refine E_ic (v := 1) dJ6_numberOfTrailingZeros_0f7a4_76 (by decide) ?_
    refine E_iushr dJ6_numberOfTrailingZeros_0f7a4_77 ?_
    refine E_iadd dJ6_numberOfTrailingZeros_0f7a4_78 ?_
    refine E_iret dJ6_numberOfTrailingZeros_0f7a4_79 rfl rfl ?_
    exact q_eq hq (by decide)
  · refine E_iload_n dJ6_numberOfTrailingZeros_0f7a4_8 rfl ?_
    refine E_if_gt dJ6_numberOfTrailingZeros_0f7a4_9 (fun _ => ?_) (fun c => absurd (by decide) c)
    refine E_ic (v := 1) dJ6_numberOfTrailingZeros_0f7a4_17 (by decide) ?_
    refine E_istore_n dJ6_numberOfTrailingZeros_0f7a4_18 (by decide) ?_
    refine E_iload_n dJ6_numberOfTrailingZeros_0f7a4_19 rfl ?_
    refine E_ldcw dJ6_numberOfTrailingZeros_0f7a4_20 kJ6_264 ?_
    refine E_icmp_le dJ6_numberOfTrailingZeros_0f7a4_23 (fun _ => ?_) (fun c => absurd (by decide) c)
    refine E_iload_n dJ6_numberOfTrailingZeros_0f7a4_34 rfl ?_
    refine E_sipush (v := 256) dJ6_numberOfTrailingZeros_0f7a4_35 (by decide) ?_
    refine E_icmp_le dJ6_numberOfTrailingZeros_0f7a4_38 (fun _ => ?_) (fun c => absurd (by decide) c)
    refine E_iload_n dJ6_numberOfTrailingZeros_0f7a4_49 rfl ?_
    refine E_bipush (v := 16) dJ6_numberOfTrailingZeros_0f7a4_50 (by decide) ?_
    refine E_icmp_le dJ6_numberOfTrailingZeros_0f7a4_52 (fun c => absurd c (by decide)) (fun _ => ?_)
    refine E_iinc (v := 4) dJ6_numberOfTrailingZeros_0f7a4_55 rfl (by decide) (by decide) ?_
    refine E_iload_n dJ6_numberOfTrailingZeros_0f7a4_58 rfl ?_
    refine E_ic (v := 4) dJ6_numberOfTrailingZeros_0f7a4_59 (by decide) ?_
    refine E_iushr dJ6_numberOfTrailingZeros_0f7a4_60 ?_
    refine E_istore_n dJ6_numberOfTrailingZeros_0f7a4_61 (by decide) ?_
    refine E_iload_n dJ6_numberOfTrailingZeros_0f7a4_62 rfl ?_
    refine E_ic (v := 4) dJ6_numberOfTrailingZeros_0f7a4_63 (by decide) ?_
    refine E_icmp_le dJ6_numberOfTrailingZeros_0f7a4_64 (fun _ => ?_) (fun c => absurd (by decide) c)
    refine E_iload_n dJ6_numberOfTrailingZeros_0f7a4_74 rfl ?_
    refine E_iload_n dJ6_numberOfTrailingZeros_0f7a4_75 rfl ?_
    refine E_ic (v := 1) dJ6_numberOfTrailingZeros_0f7a4_76 (by decide) ?_
    refine E_iushr dJ6_numberOfTrailingZeros_0f7a4_77 ?_
    refine E_iadd dJ6_numberOfTrailingZeros_0f7a4_78 ?_
    refine E_iret dJ6_numberOfTrailingZeros_0f7a4_79 rfl rfl ?_
    exact q_eq hq (by decide)
  · refine E_iload_n dJ6_numberOfTrailingZeros_0f7a4_8 rfl ?_
    refine E_if_gt dJ6_numberOfTrailingZeros_0f7a4_9 (fun _ => ?_) (fun c => absurd (by decide) c)
    refine E_ic (v := 1) dJ6_numberOfTrailingZeros_0f7a4_17 (by decide) ?_
    refine E_istore_n dJ6_numberOfTrailingZeros_0f7a4_18 (by decide) ?_
    refine E_iload_n dJ6_numberOfTrailingZeros_0f7a4_19 rfl ?_
    refine E_ldcw dJ6_numberOfTrailingZeros_0f7a4_20 kJ6_264 ?_
    refine E_icmp_le dJ6_numberOfTrailingZeros_0f7a4_23 (fun _ => ?_) (fun c => absurd (by decide) c)
    refine E_iload_n dJ6_numberOfTrailingZeros_0f7a4_34 rfl ?_
    refine E_sipush (v := 256) dJ6_numberOfTrailingZeros_0f7a4_35 (by decide) ?_
    refine E_icmp_le dJ6_numberOfTrailingZeros_0f7a4_38 (fun _ => ?_) (fun c => absurd (by decide) c)
    refine E_iload_n dJ6_numberOfTrailingZeros_0f7a4_49 rfl ?_
    refine E_bipush (v := 16) dJ6_numberOfTrailingZeros_0f7a4_50 (by decide) ?_
    refine E_icmp_le dJ6_numberOfTrailingZeros_0f7a4_52 (fun c => absurd c (by decide)) (fun _ => ?_)
    refine E_iinc (v := 4) dJ6_numberOfTrailingZeros_0f7a4_55 rfl (by decide) (by decide) ?_
    refine E_iload_n dJ6_numberOfTrailingZeros_0f7a4_58 rfl ?_
    refine E_ic (v := 4) dJ6_numberOfTrailingZeros_0f7a4_59 (by decide) ?_
    refine E_iushr dJ6_numberOfTrailingZeros_0f7a4_60 ?_
    refine E_istore_n dJ6_numberOfTrailingZeros_0f7a4_61 (by decide) ?_
    refine E_iload_n dJ6_numberOfTrailingZeros_0f7a4_62 rfl ?_
    refine E_ic (v := 4) dJ6_numberOfTrailingZeros_0f7a4_63 (by decide) ?_
    refine E_icmp_le dJ6_numberOfTrailingZeros_0f7a4_64 (fun _ => ?_) (fun c => absurd (by decide) c)
    refine E_iload_n dJ6_numberOfTrailingZeros_0f7a4_74 rfl ?_
    refine E_iload_n dJ6_numberOfTrailingZeros_0f7a4_75 rfl ?_
    refine E_ic (v := 1) dJ6_numberOfTrailingZeros_0f7a4_76 (by decide) ?_
    refine E_iushr dJ6_numberOfTrailingZeros_0f7a4_77 ?_
    refine E_iadd dJ6_numberOfTrailingZeros_0f7a4_78 ?_
    refine E_iret dJ6_numberOfTrailingZeros_0f7a4_79 rfl rfl ?_
    exact q_eq hq (by decide)
  · refine E_iload_n dJ6_numberOfTrailingZeros_0f7a4_8 rfl ?_
    refine E_if_gt dJ6_numberOfTrailingZeros_0f7a4_9 (fun _ => ?_) (fun c => absurd (by decide) c)
    refine E_ic (v := 1) dJ6_numberOfTrailingZeros_0f7a4_17 (by decide) ?_
    refine E_istore_n dJ6_numberOfTrailingZeros_0f7a4_18 (by decide) ?_
    refine E_iload_n dJ6_numberOfTrailingZeros_0f7a4_19 rfl ?_
    refine E_ldcw dJ6_numberOfTrailingZeros_0f7a4_20 kJ6_264 ?_
    refine E_icmp_le dJ6_numberOfTrailingZeros_0f7a4_23 (fun _ => ?_) (fun c => absurd (by decide) c)
    refine E_iload_n dJ6_numberOfTrailingZeros_0f7a4_34 rfl ?_
    refine E_sipush (v := 256) dJ6_numberOfTrailingZeros_0f7a4_35 (by decide) ?_
    refine E_icmp_le dJ6_numberOfTrailingZeros_0f7a4_38 (fun _ => ?_) (fun c => absurd (by decide) c)
    refine E_iload_n dJ6_numberOfTrailingZeros_0f7a4_49 rfl ?_
    refine E_bipush (v := 16) dJ6_numberOfTrailingZeros_0f7a4_50 (by decide) ?_
    refine E_icmp_le dJ6_numberOfTrailingZeros_0f7a4_52 (fun c => absurd c (by decide)) (fun _ => ?_)
    refine E_iinc (v := 4) dJ6_numberOfTrailingZeros_0f7a4_55 rfl (by decide) (by decide) ?_
    refine E_iload_n dJ6_numberOfTrailingZeros_0f7a4_58 rfl ?_
    refine E_ic (v := 4) dJ6_numberOfTrailingZeros_0f7a4_59 (by decide) ?_
    refine E_iushr dJ6_numberOfTrailingZeros_0f7a4_60 ?_
    refine E_istore_n dJ6_numberOfTrailingZeros_0f7a4_61 (by decide) ?_
    refine E_iload_n dJ6_numberOfTrailingZeros_0f7a4_62 rfl ?_
    refine E_ic (v := 4) dJ6_numberOfTrailingZeros_0f7a4_63 (by decide) ?_
    refine E_icmp_le dJ6_numberOfTrailingZeros_0f7a4_64 (fun c => absurd c (by decide)) (fun _ => ?_)
    refine E_iinc (v := 2) dJ6_numberOfTrailingZeros_0f7a4_67 rfl (by decide) (by decide) ?_
    refine E_iload_n dJ6_numberOfTrailingZeros_0f7a4_70 rfl ?_
    refine E_ic (v := 2) dJ6_numberOfTrailingZeros_0f7a4_71 (by decide) ?_
    refine E_iushr dJ6_numberOfTrailingZeros_0f7a4_72 ?_
    refine E_istore_n dJ6_numberOfTrailingZeros_0f7a4_73 (by decide) ?_
    refine E_iload_n dJ6_numberOfTrailingZeros_0f7a4_74 rfl ?_
    refine E_iload_n dJ6_numberOfTrailingZeros_0f7a4_75 rfl ?_
    refine E_ic (v := 1) dJ6_numberOfTrailingZeros_0f7a4_76 (by decide) ?_
    refine E_iushr dJ6_numberOfTrailingZeros_0f7a4_77 ?_
    refine E_iadd dJ6_numberOfTrailingZeros_0f7a4_78 ?_
    refine E_iret dJ6_numberOfTrailingZeros_0f7a4_79 rfl rfl ?_
    exact q_eq hq (by decide)
  · refine E_iload_n dJ6_numberOfTrailingZeros_0f7a4_8 rfl ?_
    refine E_if_gt dJ6_numberOfTrailingZeros_0f7a4_9 (fun _ => ?_) (fun c => absurd (by decide) c)
    refine E_ic (v := 1) dJ6_numberOfTrailingZeros_0f7a4_17 (by decide) ?_
    refine E_istore_n dJ6_numberOfTrailingZeros_0f7a4_18 (by decide) ?_
    refine E_iload_n dJ6_numberOfTrailingZeros_0f7a4_19 rfl ?_
    refine E_ldcw dJ6_numberOfTrailingZeros_0f7a4_20 kJ6_264 ?_
    refine E_icmp_le dJ6_numberOfTrailingZeros_0f7a4_23 (fun _ => ?_) (fun c => absurd (by decide) c)
    refine E_iload_n dJ6_numberOfTrailingZeros_0f7a4_34 rfl ?_
    refine E_sipush (v := 256) dJ6_numberOfTrailingZeros_0f7a4_35 (by decide) ?_
    refine E_icmp_le dJ6_numberOfTrailingZeros_0f7a4_38 (fun _ => ?_) (fun c => absurd (by decide) c)
    refine E_iload_n dJ6_numberOfTrailingZeros_0f7a4_49 rfl ?_
    refine E_bipush (v := 16) dJ6_numberOfTrailingZeros_0f7a4_50 (by decide) ?_
    refine E_icmp_le dJ6_numberOfTrailingZeros_0f7a4_52 (fun c => absurd c (by decide)) (fun _ => ?_)
    refine E_iinc (v := 4) dJ6_numberOfTrailingZeros_0f7a4_55 rfl (by decide) (by decide) ?_
    refine E_iload_n dJ6_numberOfTrailingZeros_0f7a4_58 rfl ?_
    refine E_ic (v := 4) dJ6_numberOfTrailingZeros_0f7a4_59 (by decide) ?_
    refine E_iushr dJ6_numberOfTrailingZeros_0f7a4_60 ?_
    refine E_istore_n dJ6_numberOfTrailingZeros_0f7a4_61 (by decide) ?_
    refine E_iload_n dJ6_numberOfTrailingZeros_0f7a4_62 rfl ?_
    refine E_ic (v := 4) dJ6_numberOfTrailingZeros_0f7a4_63 (by decide) ?_
    refine E_icmp_le dJ6_numberOfTrailingZeros_0f7a4_64 (fun c => absurd c (by decide)) (fun _ => ?_)
    refine E_iinc (v := 2) dJ6_numberOfTrailingZeros_0f7a4_67 rfl (by decide) (by decide) ?_
    refine E_iload_n dJ6_numberOfTrailingZeros_0f7a4_70 rfl ?_
    refine E_ic (v := 2) dJ6_numberOfTrailingZeros_0f7a4_71 (by decide) ?_
    refine E_iushr dJ6_numberOfTrailingZeros_0f7a4_72 ?_
    refine E_istore_n dJ6_numberOfTrailingZeros_0f7a4_73 (by decide) ?_
    refine E_iload_n dJ6_numberOfTrailingZeros_0f7a4_74 rfl ?_
    refine E_iload_n dJ6_numberOfTrailingZeros_0f7a4_75 rfl ?_
    refine E_ic (v := 1) dJ6_numberOfTrailingZeros_0f7a4_76 (by decide) ?_
    refine E_iushr dJ6_numberOfTrailingZeros_0f7a4_77 ?_
    refine E_iadd dJ6_numberOfTrailingZeros_0f7a4_78 ?_
    refine E_iret dJ6_numberOfTrailingZeros_0f7a4_79 rfl rfl ?_
    exact q_eq hq (by decide)
end Pq
