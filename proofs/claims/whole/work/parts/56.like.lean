/-! like, on both sides -/
theorem neg_two {d : Int32} : (if d < 0 then -d else d) = (if -d < 0 then d else -d) := by
  have hr := d.toInt_lt
  have hl := d.le_toInt
  by_cases hm : d.toInt = -2 ^ 31
  · have e : -d = d := by
      apply Int32.toInt_inj.mp
      rw [Int32.toInt_neg, hm]
      decide
    rw [e]
  · have e : (-d).toInt = -d.toInt := by
      rw [Int32.toInt_neg]
      exact Int.bmod_eq_of_le (by omega) (by omega)
    by_cases h : d < 0
    · have h' := Int32.lt_iff_toInt_lt.mp h
      rw [show (0 : Int32).toInt = 0 from rfl] at h'
      rw [if_pos h, if_neg (fun g => by have g' := Int32.lt_iff_toInt_lt.mp g; rw [e, show (0 : Int32).toInt = 0 from rfl] at g'; omega)]
    · rw [if_neg h]
      by_cases h2 : -d < 0
      · rw [if_pos h2]
      · rw [if_neg h2]
        have h' : ¬ d.toInt < 0 := fun g => h (Int32.lt_iff_toInt_lt.mpr g)
        have h2' : ¬ -d.toInt < 0 := fun g => h2 (Int32.lt_iff_toInt_lt.mpr (by rw [e]; exact g))
        apply Int32.toInt_inj.mp
        rw [e]
        omega
theorem ap_symI (a b : Int32) : apF a b = apF b a := by
  rw [apF, apF, ← Int32.neg_sub (a := a) (b := b), Int32.neg_neg]
  exact neg_two
def lkF (v : WV) (c : Nat → Int32) : Nat → Nat → Int32
  | 0 => fun _ => 0
  | k + 1 => fun p => if c k = nobody then lkF v c k p else lkF v c k p + apF (c k) (miN v k (17 + 9 * p))
theorem lk_no {v : WV} {c : Nat → Int32} {k q : Nat} (h : c k = nobody) : lkF v c (k + 1) q = lkF v c k q := if_pos h
theorem lk_yes {v : WV} {c : Nat → Int32} {k q : Nat} (h : ¬ c k = nobody) : lkF v c (k + 1) q = lkF v c k q + apF (c k) (miN v k (17 + 9 * q)) := if_neg h
def lbF (f : Nat → Int32) : Nat → Nat
  | 0 => 0
  | p + 1 => if f (p + 1) < f (lbF f p) then p + 1 else lbF f p
theorem lb_le {f : Nat → Int32} : ∀ p, lbF f p ≤ p
  | 0 => Nat.le_refl _
  | p + 1 => by
    rw [lbF]
    have := lb_le (f := f) p
    split <;> omega
theorem lb_congr {f g : Nat → Int32} : ∀ p, (∀ q, q ≤ p → f q = g q) → lbF f p = lbF g p
  | 0, _ => rfl
  | p + 1, h => by
    have l := lb_le (f := g) p
    rw [lbF, lbF, lb_congr p (fun q hq => h q (by omega)), h (p + 1) (by omega), h (lbF g p) (by omega)]
def likeR (X : SH) (v : WV) (x z : Int32) : Int32 := (ix x 4).elim bad fun s => if 0 ≤ z ∧ z ≤ 1 then (if X.1 s < 0 then nothC else if mN v = 0 then nobody else if z = 0 then nI (lbF (lkF v (X.2.2 s) (X.2.1 s)) (mN v - 1)) else lkF v (X.2.2 s) (X.2.1 s) (lbF (lkF v (X.2.2 s) (X.2.1 s)) (mN v - 1))) else bad
def MLk (S S' : SS) : Prop := ∀ k, k ≠ 160 → k ≠ 163 → k ≠ 165 → k ≠ 172 → k ≠ 173 → S' k = S k
theorem MLk.rf {S : SS} : MLk S S := fun _ _ _ _ _ _ => rfl
theorem MLk.tr {S S' S'' : SS} (h : MLk S S') (h' : MLk S' S'') : MLk S S'' := fun k a b c e f => (h' k a b c e f).trans (h k a b c e f)
theorem MH.ml {S S' : SS} (h : MH S S') : MLk S S' := fun k a b _ c e => h k a b c e
theorem MF.ml {S S' : SS} (h : MF S S') : MLk S S' := h.mh.ml
theorem MLk.w {S : SS} {j : Nat} {x : Int32} : MLk S (wr S 165 j x) := fun k _ _ a _ _ => wr_ne a
section Li
variable {Θ : Th} {d : Nat} {S : SS} {v : WV}
theorem l_X12_like37 {Q : Int32 → HP → Prop} {m s : Nat} (hm : v 1 = nI m) (hm9 : m ≤ 9) {z : Int32} : ∀ (f : Nat) (S : SS) (x3 : Int32) (p : Nat), x3 = nI p → p + f = m → S 160 = v → (∀ q, q < p → S 165 q = 0) → (∀ S', S' 160 = v → (∀ q, q < m → S' 165 q = 0) → (∀ k, k ≠ 165 → S' k = S k) → ∀ x3, E Θ (d + 6) 0 0 yX12_like cX12_like 7 (some .int) 0 0 183 (lay Θ S') 60 [(3, .int x3), (2, .int z), (1, .int (nI s)), (0, .ref (tb Θ + 159))] [] (Qi Q)) → E Θ (d + 6) 0 0 yX12_like cX12_like 7 (some .int) 0 0 183 (lay Θ S) 37 [(3, .int x3), (2, .int z), (1, .int (nI s)), (0, .ref (tb Θ + 159))] [] (Qi Q) := by
  intro f
  induction f with
  | zero =>
    intro S x3 p hx3 hi hv hz K
    refine E_iload_n dX12_like_37 rfl ?_
    refine E_aload_n dX12_like_38 rfl ?_
    refine L_get fX12_9 dX12_like_39 (by decide) sh_159 rfl ?_
    refine E_ic (v := 1) dX12_like_42 (by decide) ?_
    refine N_iald (j := 1) dX12_like_43 rfl (by decide) hv ?_
    refine E_icmp_ge dX12_like_44 (fun _ => ?_) (fun c => absurd (by rw [hm, hx3]; exact nI_le (by omega) (by omega)) c)
    exact E.loc (by exact ⟨rfl, rfl, rfl, rfl, trivial⟩) (K S hv (fun q hq => hz q (by omega)) (fun _ _ => rfl) x3)
  | succ f ih =>
    intro S x3 p hx3 hi hv hz K
    refine E_iload_n dX12_like_37 rfl ?_
    refine E_aload_n dX12_like_38 rfl ?_
    refine L_get fX12_9 dX12_like_39 (by decide) sh_159 rfl ?_
    refine E_ic (v := 1) dX12_like_42 (by decide) ?_
    refine N_iald (j := 1) dX12_like_43 rfl (by decide) hv ?_
    refine E_icmp_ge dX12_like_44 (fun c => absurd c (by rw [hm]; exact ge_no (by omega) (by omega) hx3 (by omega))) (fun _ => ?_)
    refine E_aload_n dX12_like_47 rfl ?_
    refine L_get fX12_26 dX12_like_48 (by decide) sh_159 rfl ?_
    refine E_iload_n dX12_like_51 rfl ?_
    refine E_ic (v := 0) dX12_like_52 (by decide) ?_
    refine L_iast (j := p) dX12_like_53 (by decide) sh_165 hx3 (by omega) (by decide) ?_
    refine E_iinc (v := 1) dX12_like_54 rfl (by decide) (by decide) ?_
    refine E_goto dX12_like_57 ?_
    refine E.loc (by exact ⟨rfl, rfl, rfl, rfl, trivial⟩) (ih _ _ (p + 1) (by rw [hx3, nI_1]) (by omega) (by rw [wr_ne (by decide)]; exact hv) (fun q hq => ?_) (fun S9 a9 b9 c9 => K S9 a9 b9 (fun k hk => (c9 k hk).trans (wr_ne hk))))
    rw [wr_at]
    by_cases e : q = p
    · rw [e, pk_us]
    · rw [pk_un e]
      exact hz q (by omega)
/-- the sums of the first p are one place on -/
def OI (f : Nat → Int32) (g : Nat → Int32) (u : WV) (c0 : Int32) (m p : Nat) : Prop := ∀ q, q < m → f q = if q < p then g q + apF c0 (u (17 + 9 * q)) else g q
theorem OI.step {f g : Nat → Int32} {u : WV} {c0 : Int32} {m p : Nat} (h : OI f g u c0 m p) (hp : p < m) : OI (upd f p (f p + apF c0 (u (17 + 9 * p)))) g u c0 m (p + 1) := by
  intro q hq
  by_cases e : q = p
  · subst e
    rw [pk_us, if_pos (by omega), h q hq, if_neg (by omega)]
  · rw [pk_un e, h q hq]
    by_cases g : q < p
    · rw [if_pos g, if_pos (by omega)]
    · rw [if_neg g, if_neg (by omega)]
theorem l_X12_like88 {Q : Int32 → HP → Prop} {m s : Nat} {u : WV} (hm : u 1 = nI m) (hm9 : m ≤ 9) {z a3 c0 : Int32} (hc0 : ¬ c0 = nobody) {g : Nat → Int32} : ∀ (f : Nat) (S : SS) (x5 : Int32) (p : Nat), x5 = nI p → p + f = m → S 160 = u → OI (S 165) g u c0 m p → (∀ S', S' 160 = u → OI (S' 165) g u c0 m m → (∀ k, k ≠ 165 → S' k = S k) → ∀ x5, E Θ (d + 6) 0 0 yX12_like cX12_like 7 (some .int) 0 0 183 (lay Θ S') 147 [(5, .int x5), (4, .int c0), (3, .int a3), (2, .int z), (1, .int (nI s)), (0, .ref (tb Θ + 159))] [] (Qi Q)) → E Θ (d + 6) 0 0 yX12_like cX12_like 7 (some .int) 0 0 183 (lay Θ S) 88 [(5, .int x5), (4, .int c0), (3, .int a3), (2, .int z), (1, .int (nI s)), (0, .ref (tb Θ + 159))] [] (Qi Q) := by
  intro f
  induction f with
  | zero =>
    intro S x5 p hx5 hi hv hO K
    refine E_iload dX12_like_88 rfl ?_
    refine E_aload_n dX12_like_90 rfl ?_
    refine L_get fX12_9 dX12_like_91 (by decide) sh_159 rfl ?_
    refine E_ic (v := 1) dX12_like_94 (by decide) ?_
    refine N_iald (j := 1) dX12_like_95 rfl (by decide) hv ?_
    refine E_icmp_ge dX12_like_96 (fun _ => ?_) (fun c => absurd (by rw [hm, hx5]; exact nI_le (by omega) (by omega)) c)
    obtain rfl : p = m := by omega
    exact E.loc (by exact ⟨rfl, rfl, rfl, rfl, rfl, rfl, trivial⟩) (K S hv hO (fun _ _ => rfl) x5)
  | succ f ih =>
    intro S x5 p hx5 hi hv hO K
    refine E_iload dX12_like_88 rfl ?_
    refine E_aload_n dX12_like_90 rfl ?_
    refine L_get fX12_9 dX12_like_91 (by decide) sh_159 rfl ?_
    refine E_ic (v := 1) dX12_like_94 (by decide) ?_
    refine N_iald (j := 1) dX12_like_95 rfl (by decide) hv ?_
    refine E_icmp_ge dX12_like_96 (fun c => absurd c (by rw [hm]; exact ge_no (by omega) (by omega) hx5 (by omega))) (fun _ => ?_)
    refine E_iload dX12_like_99 rfl ?_
    refine E_ldc dX12_like_101 kX12_136 ?_
    refine E_icmp_eq dX12_like_103 (fun c => absurd c hc0) (fun _ => ?_)
    refine E_iload dX12_like_106 rfl ?_
    refine E_aload_n dX12_like_108 rfl ?_
    refine E_iload dX12_like_109 rfl ?_
    refine E_ic (v := 2) dX12_like_111 (by decide) ?_
    refine E_V2i vX12_85_12 dX12_like_112 (Nat.le_of_ble_eq_true rfl) (by decide) (sh_159 _) (s_X12_of hv p 2 (17 + 9 * p) hx5 rfl (by omega) (by omega) ?_)
    refine E_isub dX12_like_115 ?_
    refine E_istore dX12_like_116 (by decide) ?_
    refine E_aload_n dX12_like_118 rfl ?_
    refine L_get fX12_26 dX12_like_119 (by decide) sh_159 rfl ?_
    refine E_iload dX12_like_122 rfl ?_
    refine E_dup2 dX12_like_124 rfl rfl ?_
    refine L_iald (j := p) dX12_like_125 (by decide) sh_165 hx5 (by omega) (by decide) ?_
    refine E_iload dX12_like_126 rfl ?_
    refine E_if_ge dX12_like_128 (fun c128 => ?_) (fun c128 => ?_)
    · refine E_iload dX12_like_137 rfl ?_
      refine E_iadd dX12_like_139 ?_
      refine L_iast (j := p) dX12_like_140 (by decide) sh_165 hx5 (by omega) (by decide) ?_
      refine E_iinc (v := 1) dX12_like_141 rfl (by decide) (by decide) ?_
      refine E_goto dX12_like_144 ?_
      exact E.loc (by exact ⟨rfl, rfl, rfl, rfl, rfl, rfl, trivial⟩) (ih _ _ (p + 1) (by rw [hx5, nI_1]) (by omega) (by rw [wr_ne (by decide)]; exact hv) (by rw [wr_at, show c0 - u (17 + 9 * p) = apF c0 (u (17 + 9 * p)) from (if_neg (i_lt c128)).symm]; exact hO.step (by omega)) (fun S9 a9 b9 c9 => K S9 a9 b9 (fun k hk => (c9 k hk).trans (wr_ne hk))))
    · refine E_iload dX12_like_131 rfl ?_
      refine E_ineg dX12_like_133 ?_
      refine E_goto dX12_like_134 ?_
      refine E_iadd dX12_like_139 ?_
      refine L_iast (j := p) dX12_like_140 (by decide) sh_165 hx5 (by omega) (by decide) ?_
      refine E_iinc (v := 1) dX12_like_141 rfl (by decide) (by decide) ?_
      refine E_goto dX12_like_144 ?_
      exact E.loc (by exact ⟨rfl, rfl, rfl, rfl, rfl, rfl, trivial⟩) (ih _ _ (p + 1) (by rw [hx5, nI_1]) (by omega) (by rw [wr_ne (by decide)]; exact hv) (by rw [wr_at, show -(c0 - u (17 + 9 * p)) = apF c0 (u (17 + 9 * p)) from (if_pos (i_nle c128)).symm]; exact hO.step (by omega)) (fun S9 a9 b9 c9 => K S9 a9 b9 (fun k hk => (c9 k hk).trans (wr_ne hk))))
theorem l_X12_like62 {Q : Int32 → HP → Prop} (iv : IV v) {m s n : Nat} (hm : v 1 = nI m) (hm9 : m ≤ 9) (hs : s < 4) (h24 : n ≤ 24) {z : Int32} {c : Nat → Int32} : ∀ (f : Nat) (S : SS) (x3 : Int32) (k : Nat), x3 = nI k → k + f = n → S 160 = miN v k → (∀ q, q < m → S 165 q = lkF v c k q) → S 175 s = nI n → (∀ j, j < 24 → S 176 (24 * s + j) = c j) → (∀ j, j < 1468 → S 163 j = v j) → (∀ S', S' 160 = miN v n → (∀ q, q < m → S' 165 q = lkF v c n q) → MLk S S' → (∀ j, j < 1468 → S' 163 j = v j) → ∀ x3, E Θ (d + 6) 0 0 yX12_like cX12_like 7 (some .int) 0 0 183 (lay Θ S') 157 [(3, .int x3), (2, .int z), (1, .int (nI s)), (0, .ref (tb Θ + 159))] [] (Qi Q)) → E Θ (d + 6) 0 0 yX12_like cX12_like 7 (some .int) 0 0 183 (lay Θ S) 62 [(3, .int x3), (2, .int z), (1, .int (nI s)), (0, .ref (tb Θ + 159))] [] (Qi Q) := by
  intro f
  induction f with
  | zero =>
    intro S x3 k hx3 hi hv hO hn hc hB K
    refine E_iload_n dX12_like_62 rfl ?_
    refine E_aload_n dX12_like_63 rfl ?_
    refine L_get fX12_57 dX12_like_64 (by decide) sh_159 rfl ?_
    refine E_iload_n dX12_like_67 rfl ?_
    refine L_iald (j := s) dX12_like_68 (by decide) sh_175 rfl hs (by decide) ?_
    rw [hn]
    refine E_icmp_ge dX12_like_69 (fun _ => ?_) (fun c => absurd (by rw [hx3]; exact nI_le (by omega) (by omega)) c)
    obtain rfl : k = n := by omega
    exact E.loc (by exact ⟨rfl, rfl, rfl, rfl, trivial⟩) (K S hv hO MLk.rf hB x3)
  | succ f ih =>
    intro S x3 k hx3 hi hv hO hn hc hB K
    refine E_iload_n dX12_like_62 rfl ?_
    refine E_aload_n dX12_like_63 rfl ?_
    refine L_get fX12_57 dX12_like_64 (by decide) sh_159 rfl ?_
    refine E_iload_n dX12_like_67 rfl ?_
    refine L_iald (j := s) dX12_like_68 (by decide) sh_175 rfl hs (by decide) ?_
    rw [hn]
    refine E_icmp_ge dX12_like_69 (fun c => absurd c (ge_no (by omega) (by omega) hx3 (by omega))) (fun _ => ?_)
    refine E_aload_n dX12_like_72 rfl ?_
    refine L_get fX12_60 dX12_like_73 (by decide) sh_159 rfl ?_
    refine E_bipush (v := 24) dX12_like_76 (by decide) ?_
    refine E_iload_n dX12_like_78 rfl ?_
    refine E_imul dX12_like_79 ?_
    refine E_iload_n dX12_like_80 rfl ?_
    refine E_iadd dX12_like_81 ?_
    refine L_iald (j := 24 * s + k) dX12_like_82 (by decide) sh_176 (by rw [hx3]; exact ce_ix) (by omega) (by decide) ?_
    rw [hc k (by omega)]
    refine E_istore dX12_like_83 (by decide) ?_
    refine E_ic (v := 0) dX12_like_85 (by decide) ?_
    refine E_istore dX12_like_86 (by decide) ?_
    by_cases hcn : c k = nobody
    · refine E_iload dX12_like_88 rfl ?_
      refine E_aload_n dX12_like_90 rfl ?_
      refine L_get fX12_9 dX12_like_91 (by decide) sh_159 rfl ?_
      refine E_ic (v := 1) dX12_like_94 (by decide) ?_
      refine N_iald (j := 1) dX12_like_95 rfl (by decide) hv ?_
      refine E_icmp_ge dX12_like_96 (fun c96 => ?_) (fun c96 => ?_)
      · refine E_aload_n dX12_like_147 rfl ?_
        refine E_V0v vX12_165_12 dX12_like_148 (Nat.le_of_ble_eq_true rfl) (by decide) (sh_159 _) (s_X12_minute hv (IV_miN iv k) (fun S148 h148 f148 => ?_))
        refine E_iinc (v := 1) dX12_like_151 rfl (by decide) (by decide) ?_
        refine E_goto dX12_like_154 ?_
        exact E.loc (by exact ⟨rfl, rfl, rfl, rfl, trivial⟩) (ih S148 _ (k + 1) (by rw [hx3, nI_1]) (by omega) h148 (fun q hq => by rw [f148 165 (by decide) (by decide) (by decide), hO q hq, lk_no hcn]) (by rw [f148 175 (by decide) (by decide) (by decide)]; exact hn) (by rw [f148 176 (by decide) (by decide) (by decide)]; exact hc) (by rw [f148 163 (by decide) (by decide) (by decide)]; exact hB) (fun S9 a9 b9 c9 => K S9 a9 b9 (f148.ml.tr c9)))
      · refine E_iload dX12_like_99 rfl ?_
        refine E_ldc dX12_like_101 kX12_136 ?_
        refine E_icmp_eq dX12_like_103 (fun _ => ?_) (fun c => absurd hcn c)
        refine E_aload_n dX12_like_147 rfl ?_
        refine E_V0v vX12_165_12 dX12_like_148 (Nat.le_of_ble_eq_true rfl) (by decide) (sh_159 _) (s_X12_minute hv (IV_miN iv k) (fun S148 h148 f148 => ?_))
        refine E_iinc (v := 1) dX12_like_151 rfl (by decide) (by decide) ?_
        refine E_goto dX12_like_154 ?_
        exact E.loc (by exact ⟨rfl, rfl, rfl, rfl, trivial⟩) (ih S148 _ (k + 1) (by rw [hx3, nI_1]) (by omega) h148 (fun q hq => by rw [f148 165 (by decide) (by decide) (by decide), hO q hq, lk_no hcn]) (by rw [f148 175 (by decide) (by decide) (by decide)]; exact hn) (by rw [f148 176 (by decide) (by decide) (by decide)]; exact hc) (by rw [f148 163 (by decide) (by decide) (by decide)]; exact hB) (fun S9 a9 b9 c9 => K S9 a9 b9 (f148.ml.tr c9)))
    · refine E.loc (ls' := [(5, .int 0), (4, .int (c k)), (3, .int x3), (2, .int z), (1, .int (nI s)), (0, .ref (tb Θ + 159))]) (by exact ⟨rfl, rfl, rfl, rfl, rfl, rfl, trivial⟩) (l_X12_like88 ((miN_un iv (Or.inl rfl) k).trans hm) hm9 hcn (g := lkF v c k) m S 0 0 rfl (by omega) hv (fun q hq => by rw [if_neg (by omega)]; exact hO q hq) (fun S8 a8 b8 c8 x5 => ?_))
      refine E_aload_n dX12_like_147 rfl ?_
      refine E_V0v vX12_165_12 dX12_like_148 (Nat.le_of_ble_eq_true rfl) (by decide) (sh_159 _) (s_X12_minute a8 (IV_miN iv k) (fun S148 h148 f148 => ?_))
      refine E_iinc (v := 1) dX12_like_151 rfl (by decide) (by decide) ?_
      refine E_goto dX12_like_154 ?_
      exact E.loc (by exact ⟨rfl, rfl, rfl, rfl, trivial⟩) (ih S148 _ (k + 1) (by rw [hx3, nI_1]) (by omega) h148 (fun q hq => by rw [f148 165 (by decide) (by decide) (by decide), b8 q hq, if_pos hq, lk_yes hcn]) (by rw [f148 175 (by decide) (by decide) (by decide), c8 175 (by decide)]; exact hn) (by rw [f148 176 (by decide) (by decide) (by decide), c8 176 (by decide)]; exact hc) (by rw [f148 163 (by decide) (by decide) (by decide), c8 163 (by decide)]; exact hB) (fun S9 a9 b9 c9 => K S9 a9 b9 (((show MLk S S8 from fun j _ _ a _ _ => c8 j a).tr f148.ml).tr c9)))
theorem l_X12_like166 {Q : Int32 → HP → Prop} (hv : S 160 = v) {m s : Nat} (hm : v 1 = nI m) (hm9 : m ≤ 9) (hm0 : 0 < m) {z : Int32} {g : Nat → Int32} (hO : ∀ q, q < m → S 165 q = g q) (hq : Q (if z = 0 then nI (lbF g (m - 1)) else g (lbF g (m - 1))) (lay Θ S)) : ∀ (f : Nat) (x3 x4 : Int32) (p : Nat), x3 = nI (lbF g p) → x4 = nI (p + 1) → p + 1 + f = m → E Θ (d + 6) 0 0 yX12_like cX12_like 7 (some .int) 0 0 183 (lay Θ S) 166 [(4, .int x4), (3, .int x3), (2, .int z), (1, .int (nI s)), (0, .ref (tb Θ + 159))] [] (Qi Q) := by
  intro f
  induction f with
  | zero =>
    intro x3 x4 p hx3 hx4 hi
    have hl := lb_le (f := g) p
    refine E_iload dX12_like_166 rfl ?_
    refine E_aload_n dX12_like_168 rfl ?_
    refine L_get fX12_9 dX12_like_169 (by decide) sh_159 rfl ?_
    refine E_ic (v := 1) dX12_like_172 (by decide) ?_
    refine N_iald (j := 1) dX12_like_173 rfl (by decide) hv ?_
    refine E_icmp_ge dX12_like_174 (fun _ => ?_) (fun c => absurd (by rw [hm, hx4]; exact nI_le (by omega) (by omega)) c)
    refine E_aload_n dX12_like_206 rfl ?_
    refine L_get fX12_9 dX12_like_207 (by decide) sh_159 rfl ?_
    refine E_ic (v := 1) dX12_like_210 (by decide) ?_
    refine N_iald (j := 1) dX12_like_211 rfl (by decide) hv ?_
    refine E_if_ne dX12_like_212 (fun _ => ?_) (fun c => absurd c (by rw [hm]; exact nI_ne0 (by omega) (by omega)))
    refine E_iload_n dX12_like_220 rfl ?_
    refine E_if_ne dX12_like_221 (fun c221 => ?_) (fun c221 => ?_)
    · refine E_aload_n dX12_like_228 rfl ?_
      refine L_get fX12_26 dX12_like_229 (by decide) sh_159 rfl ?_
      refine E_iload_n dX12_like_232 rfl ?_
      refine L_iald (j := lbF g p) dX12_like_233 (by decide) sh_165 hx3 (by omega) (by decide) ?_
      refine E_iret dX12_like_234 rfl rfl ?_
      rw [if_neg c221, ← show p = m - 1 by omega] at hq
      rw [hO _ (by omega)]
      exact hq
    · refine E_iload_n dX12_like_224 rfl ?_
      refine E_goto dX12_like_225 ?_
      refine E_iret dX12_like_234 rfl rfl ?_
      rw [if_pos c221, ← show p = m - 1 by omega] at hq
      rw [hx3]
      exact hq
  | succ f ih =>
    intro x3 x4 p hx3 hx4 hi
    have hl := lb_le (f := g) p
    refine E_iload dX12_like_166 rfl ?_
    refine E_aload_n dX12_like_168 rfl ?_
    refine L_get fX12_9 dX12_like_169 (by decide) sh_159 rfl ?_
    refine E_ic (v := 1) dX12_like_172 (by decide) ?_
    refine N_iald (j := 1) dX12_like_173 rfl (by decide) hv ?_
    refine E_icmp_ge dX12_like_174 (fun c => absurd c (by rw [hm]; exact ge_no (by omega) (by omega) hx4 (by omega))) (fun _ => ?_)
    refine E_aload_n dX12_like_177 rfl ?_
    refine L_get fX12_26 dX12_like_178 (by decide) sh_159 rfl ?_
    refine E_iload dX12_like_181 rfl ?_
    refine L_iald (j := p + 1) dX12_like_183 (by decide) sh_165 hx4 (by omega) (by decide) ?_
    rw [hO (p + 1) (by omega)]
    refine E_aload_n dX12_like_184 rfl ?_
    refine L_get fX12_26 dX12_like_185 (by decide) sh_159 rfl ?_
    refine E_iload_n dX12_like_188 rfl ?_
    refine L_iald (j := lbF g p) dX12_like_189 (by decide) sh_165 hx3 (by omega) (by decide) ?_
    rw [hO (lbF g p) (by omega)]
    refine E_icmp_ge dX12_like_190 (fun c190 => ?_) (fun c190 => ?_)
    · refine E_iload_n dX12_like_198 rfl ?_
      refine E_istore_n dX12_like_199 (by decide) ?_
      refine E_iinc (v := 1) dX12_like_200 rfl (by decide) (by decide) ?_
      refine E_goto dX12_like_203 ?_
      exact E.loc (by exact ⟨rfl, rfl, rfl, rfl, rfl, trivial⟩) (ih _ _ (p + 1) (by rw [lbF, if_neg (i_lt c190)]; exact hx3) (by rw [hx4, nI_1]) (by omega))
    · refine E_iload dX12_like_193 rfl ?_
      refine E_goto dX12_like_195 ?_
      refine E_istore_n dX12_like_199 (by decide) ?_
      refine E_iinc (v := 1) dX12_like_200 rfl (by decide) (by decide) ?_
      refine E_goto dX12_like_203 ?_
      exact E.loc (by exact ⟨rfl, rfl, rfl, rfl, rfl, trivial⟩) (ih _ _ (p + 1) (by rw [lbF, if_pos (i_nle c190)]; exact hx4) (by rw [hx4, nI_1]) (by omega))
theorem s_X12_like {Q : Int32 → HP → Prop} (hv : S 160 = v) (iv : IV v) {X : SH} (hX : RSh S X) (oX : OSh X) {x z : Int32} (hq : ∀ S', S' 160 = v → MLk S S' → Q (likeR X v x z) (lay Θ S')) : C Θ (d + 6) 0 0 yX12_like cX12_like 7 (some .int) [.ref (tb Θ + 159), .int x, .int z] 183 (lay Θ S) (Qi Q) := by
  refine C_of rfl rfl (Nat.le_of_ble_eq_true rfl) ?_
  obtain ⟨m, hm9, hm, hpa⟩ := iv.1
  have hmm : mN v = m := by rw [mN, hm, nI_clamp (by omega)]
  refine E_iload_n dX12_like_0 rfl ?_
  refine E_S1i sX12_202 dX12_like_1 (Nat.le_of_ble_eq_true rfl) (s_X12_isSheet (fun g1 => ?_) (fun g1 => ?_))
  · obtain ⟨s, hs, es, is⟩ := ix_some (by omega) g1
    refine E_if_eq dX12_like_4 (fun c => absurd c (by decide)) (fun _ => ?_)
    refine E_iload_n dX12_like_7 rfl ?_
    refine E_ic (v := 0) dX12_like_8 (by decide) ?_
    refine E_ic (v := 1) dX12_like_9 (by decide) ?_
    refine E_S3i sX12_81 dX12_like_10 (Nat.le_of_ble_eq_true rfl) (s_X12_in (fun g2a g2b => ?_) (fun g2 => ?_))
    · refine E_if_ne dX12_like_13 (fun _ => ?_) (fun c => absurd c (by decide))
      refine E_aload_n dX12_like_19 rfl ?_
      refine L_get fX12_54 dX12_like_20 (by decide) sh_159 rfl ?_
      refine E_iload_n dX12_like_23 rfl ?_
      refine L_iald (j := s) dX12_like_24 (by decide) sh_174 es hs (by decide) ?_
      rw [(hX s hs).1]
      refine E_if_ge dX12_like_25 (fun c25 => ?_) (fun c25 => ?_)
      · refine E_aload_n dX12_like_31 rfl ?_
        refine E_V0v vX12_181_12 dX12_like_32 (Nat.le_of_ble_eq_true rfl) (by decide) (sh_159 _) (s_X12_thinks hv (fun S32 h32 B32 f32 => ?_))
        refine E_ic (v := 0) dX12_like_35 (by decide) ?_
        refine E_istore_n dX12_like_36 (by decide) ?_
        rw [likeR, is, Option.elim, if_pos ⟨g2a, g2b⟩, if_neg (i_lt c25)] at hq
        rw [es]
        refine E.loc (ls' := [(3, .int 0), (2, .int z), (1, .int (nI s)), (0, .ref (tb Θ + 159))]) (by exact ⟨rfl, rfl, rfl, rfl, trivial⟩) (l_X12_like37 hm hm9 m S32 0 0 rfl (by omega) h32 (fun q hq => absurd hq (by omega)) (fun S8 a8 b8 c8 x3 => ?_))
        refine E_ic (v := 0) dX12_like_60 (by decide) ?_
        refine E_istore_n dX12_like_61 (by decide) ?_
        refine E.loc (ls' := [(3, .int 0), (2, .int z), (1, .int (nI s)), (0, .ref (tb Θ + 159))]) (by exact ⟨rfl, rfl, rfl, rfl, trivial⟩) (l_X12_like62 iv hm hm9 hs (oX s hs).2 (c := X.2.2 s) (X.2.1 s) S8 0 0 rfl (by omega) a8 (fun q hq => b8 q hq) (by rw [c8 175 (by decide), f32 175 (by decide) (by decide) (by decide) (by decide)]; exact (hX s hs).2.1) (by rw [c8 176 (by decide), f32 176 (by decide) (by decide) (by decide) (by decide)]; exact (hX s hs).2.2) (by rw [c8 163 (by decide)]; exact B32) (fun S7 a7 b7 c7 B7 x3 => ?_))
        refine E_aload_n dX12_like_157 rfl ?_
        refine E_V0v vX12_184_12 dX12_like_158 (Nat.le_of_ble_eq_true rfl) (by decide) (sh_159 _) (s_X12_putsBack B7 (fun k hk => by rw [a7]; exact miN_un iv (Or.inr (Or.inr (by omega))) _) (fun S158 h158 f158 => ?_))
        refine E_ic (v := 0) dX12_like_161 (by decide) ?_
        refine E_istore_n dX12_like_162 (by decide) ?_
        refine E_ic (v := 1) dX12_like_163 (by decide) ?_
        refine E_istore dX12_like_164 (by decide) ?_
        rcases Nat.eq_zero_or_pos m with m0 | m0
        · rw [if_pos (hmm.trans m0)] at hq
          refine E_iload dX12_like_166 rfl ?_
          refine E_aload_n dX12_like_168 rfl ?_
          refine L_get fX12_9 dX12_like_169 (by decide) sh_159 rfl ?_
          refine E_ic (v := 1) dX12_like_172 (by decide) ?_
          refine N_iald (j := 1) dX12_like_173 rfl (by decide) h158 ?_
          refine E_icmp_ge dX12_like_174 (fun _ => ?_) (fun c => absurd (by rw [hm, m0]; decide) c)
          refine E_aload_n dX12_like_206 rfl ?_
          refine L_get fX12_9 dX12_like_207 (by decide) sh_159 rfl ?_
          refine E_ic (v := 1) dX12_like_210 (by decide) ?_
          refine N_iald (j := 1) dX12_like_211 rfl (by decide) h158 ?_
          refine E_if_ne dX12_like_212 (fun c => absurd (by rw [hm, m0]; rfl) c) (fun _ => ?_)
          refine E_ldc dX12_like_215 kX12_136 ?_
          refine E_goto dX12_like_217 ?_
          refine E_iret dX12_like_234 rfl rfl ?_
          exact hq S158 h158 (((f32.ml.tr (show MLk S32 S8 from fun j _ _ a _ _ => c8 j a)).tr c7).tr f158.ml)
        · rw [if_neg (by omega)] at hq
          have hO9 : ∀ q, q < m → S158 165 q = lkF v (X.2.2 s) (X.2.1 s) q := fun q hq => by rw [f158 165 (by decide) (by decide) (by decide)]; exact b7 q hq
          rw [hmm] at hq
          exact E.loc (by exact ⟨rfl, rfl, rfl, rfl, rfl, trivial⟩) (l_X12_like166 h158 hm hm9 m0 hO9 (hq S158 h158 (((f32.ml.tr (show MLk S32 S8 from fun j _ _ a _ _ => c8 j a)).tr c7).tr f158.ml)) (m - 1) 0 1 0 rfl rfl (by omega))
      · refine E_ldc dX12_like_28 kX12_205 ?_
        refine E_iret dX12_like_30 rfl rfl ?_
        rw [likeR, is, Option.elim, if_pos ⟨g2a, g2b⟩, if_pos (i_nle c25)] at hq
        exact hq S hv MLk.rf
    · refine E_if_ne dX12_like_13 (fun c => absurd rfl c) (fun _ => ?_)
      refine E_ldc dX12_like_16 kX12_107 ?_
      refine E_iret dX12_like_18 rfl rfl ?_
      rw [likeR, is, Option.elim, if_neg g2] at hq
      exact hq S hv MLk.rf
  · have is := ix_none (by omega) g1
    refine E_if_eq dX12_like_4 (fun _ => ?_) (fun c => absurd (by decide) c)
    refine E_ldc dX12_like_16 kX12_107 ?_
    refine E_iret dX12_like_18 rfl rfl ?_
    rw [likeR, is] at hq
    exact hq S hv MLk.rf
end Li
