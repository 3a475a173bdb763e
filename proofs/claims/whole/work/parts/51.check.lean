/-! check, on both sides -/
def ckF (t : Nat → Int32) (many : Nat) : Nat → WV → Nat → Int32
  | 0, _, r => if r = many then 0 else nI (1 + r)
  | f + 1, u, r => if r < many ∧ t r = miV u 10 then (if r + 1 < many ∧ t (r + 1) = teF (miV u) (mN (miV u)) then ckF t many f (miV u) (r + 2) else nI (2 + r)) else nI (1 + r)
theorem ck_go {t : Nat → Int32} {many f r : Nat} {u : WV} (h1 : r < many ∧ t r = miV u 10) (h2 : r + 1 < many ∧ t (r + 1) = teF (miV u) (mN (miV u))) : ckF t many (f + 1) u r = ckF t many f (miV u) (r + 2) := by rw [ckF, if_pos h1, if_pos h2]
theorem ck_two {t : Nat → Int32} {many f r : Nat} {u : WV} (h1 : r < many ∧ t r = miV u 10) (h2 : ¬ (r + 1 < many ∧ t (r + 1) = teF (miV u) (mN (miV u)))) : ckF t many (f + 1) u r = nI (2 + r) := by rw [ckF, if_pos h1, if_neg h2]
theorem ck_one {t : Nat → Int32} {many f r : Nat} {u : WV} (h1 : ¬ (r < many ∧ t r = miV u 10)) : ckF t many (f + 1) u r = nI (1 + r) := by rw [ckF, if_neg h1]
theorem ck_congr {t t' : Nat → Int32} {many : Nat} (h : ∀ k, k < many → t k = t' k) : ∀ f u r, ckF t many f u r = ckF t' many f u r
  | 0, _, _ => rfl
  | f + 1, u, r => by
    by_cases h1 : r < many ∧ t r = miV u 10
    · have g1 : r < many ∧ t' r = miV u 10 := ⟨h1.1, (h r h1.1) ▸ h1.2⟩
      by_cases h2 : r + 1 < many ∧ t (r + 1) = teF (miV u) (mN (miV u))
      · rw [ck_go h1 h2, ck_go g1 ⟨h2.1, (h _ h2.1) ▸ h2.2⟩]
        exact ck_congr h f _ _
      · rw [ck_two h1 h2, ck_two g1 (fun g => h2 ⟨g.1, (h _ g.1).symm ▸ g.2⟩)]
    · rw [ck_one h1, ck_one (fun g => h1 ⟨g.1, (h _ g.1).symm ▸ g.2⟩)]
/-- what check answers: has an image u or not, the numbers told -/
def checkR (has : Int32) (u : WV) (t : Nat → Int32) (many : Nat) (x : Int32) : Int32 := if 1 ≤ x ∧ x ≤ 30 then (if has = 0 then noo else ckF t many (min (9999 - (u 2).toNatClampNeg) x.toNatClampNeg) u 0) else bad
theorem mi_m {u : WV} {m : Nat} (iv : IV u) (h : u 1 = nI m) : miV u 1 = nI m := (mi_un iv (Or.inl rfl)).trans h
theorem mN_of {u : WV} {m : Nat} (h : u 1 = nI m) (hm : m ≤ 9) : mN u = m := by rw [mN, h, nI_clamp (by omega)]
section Ch
variable {Θ : Th} {d : Nat} {S : SS} {v : WV}
theorem s_X11_waitsAt {Q : Int32 → HP → Prop} {p many : Nat} (hp : p ≤ 200) (hm : many ≤ 60) {x : Int32} (ht : p < many → S 10 p = x → Q 1 (lay Θ S)) (hf : ¬ (p < many ∧ S 10 p = x) → Q 0 (lay Θ S)) : C Θ d 0 0 yX11_waitsAt cX11_waitsAt 4 (some .boolean) [.ref (tb Θ + 0), .int (nI p), .int (nI many), .int x] 183 (lay Θ S) (Qi Q) := by
  refine C_of rfl rfl (Nat.le_of_ble_eq_true rfl) ?_
  refine E_iload_n dX11_waitsAt_0 rfl ?_
  refine E_iload_n dX11_waitsAt_1 rfl ?_
  refine E_icmp_ge dX11_waitsAt_2 (fun c2 => ?_) (fun c2 => ?_)
  · refine E_ic (v := 0) dX11_waitsAt_28 (by decide) ?_
    refine E_iret dX11_waitsAt_29 rfl rfl ?_
    exact hf (fun h => absurd ((nI_leI (by omega) (by omega)).mp c2) (by omega))
  · have h2 : p < many := (nI_ltI (by omega) (by omega)).mp (i_nle c2)
    refine E_iload_n dX11_waitsAt_5 rfl ?_
    refine E_aload_n dX11_waitsAt_6 rfl ?_
    refine L_get fX11_50 dX11_waitsAt_7 (by decide) sh_0 rfl ?_
    refine L_alen dX11_waitsAt_10 (by decide) sh_10 rfl ?_
    refine E_icmp_ge dX11_waitsAt_11 (fun c => absurd c (nI_ge (b := 60) (by omega) (by omega))) (fun _ => ?_)
    refine E_aload_n dX11_waitsAt_14 rfl ?_
    refine L_get fX11_50 dX11_waitsAt_15 (by decide) sh_0 rfl ?_
    refine E_iload_n dX11_waitsAt_18 rfl ?_
    refine L_iald (j := p) dX11_waitsAt_19 (by decide) sh_10 rfl (by omega) (by decide) ?_
    refine E_iload_n dX11_waitsAt_20 rfl ?_
    refine E_icmp_ne dX11_waitsAt_21 (fun c21 => ?_) (fun c21 => ?_)
    · refine E_ic (v := 0) dX11_waitsAt_28 (by decide) ?_
      refine E_iret dX11_waitsAt_29 rfl rfl ?_
      exact hf (fun h => c21 h.2)
    · refine E_ic (v := 1) dX11_waitsAt_24 (by decide) ?_
      refine E_goto dX11_waitsAt_25 ?_
      refine E_iret dX11_waitsAt_29 rfl rfl ?_
      exact ht h2 c21
theorem l_X11_check {Q : Int32 → HP → Prop} {n many m : Nat} (hn : n ≤ 30) (h60 : many ≤ 60) (hm9 : m ≤ 9) {t : Nat → Int32} : ∀ (f : Nat) (u : WV) (S : SS) (x4 : Int32) (i k r : Nat), x4 = nI i → u 2 = nI k → f = min (9999 - k) (n - i) → i ≤ n ∧ k ≤ 9999 → r = 2 * i → WRep S 64 u → IV u → TRep S u → u 1 = nI m → mN u = m → (∀ q, q < many → S 10 q = t q) → (∀ S', WF 64 S S' → Q (ckF t many f u r) (lay Θ S')) → E Θ (d + 6) 0 0 yX11_check cX11_check 5 (some .int) 0 0 183 (lay Θ S) 49 [(4, .int x4), (3, .int (nI r)), (2, .int (nI many)), (1, .int (nI n)), (0, .ref (tb Θ + 0))] [] (Qi Q) := by
  have hw : isW 64 := isW64
  intro f
  induction f with
  | zero =>
    intro u S x4 i k r hx4 h2 hf hik hr hR iv hT hm hmm ht hq
    rcases (show n ≤ i ∨ 9999 ≤ k by omega) with h | h
    · refine E_iload dX11_check_49 rfl ?_
      refine E_iload_n dX11_check_51 rfl ?_
      refine E_icmp_ge dX11_check_52 (fun _ => ?_) (fun c => absurd (by rw [hx4]; exact nI_le h (by omega)) c)
      refine E_iload_n dX11_check_128 rfl ?_
      refine E_iload_n dX11_check_129 rfl ?_
      refine E_icmp_ne dX11_check_130 (fun c130 => ?_) (fun c130 => ?_)
      · refine E_ic (v := 1) dX11_check_137 (by decide) ?_
        refine E_iload_n dX11_check_138 rfl ?_
        refine E_iadd dX11_check_139 ?_
        refine E_iret dX11_check_140 rfl rfl ?_
        rw [ckF, if_neg (fun e => c130 (by rw [e]))] at hq
        rw [show (1 : Int32) + nI r = nI (1 + r) from nI_add 1 r]
        exact hq S WF.rf
      · refine E_ic (v := 0) dX11_check_133 (by decide) ?_
        refine E_goto dX11_check_134 ?_
        refine E_iret dX11_check_140 rfl rfl ?_
        rw [ckF, if_pos (nI_inj (by omega) (by omega) c130)] at hq
        exact hq S WF.rf
    · refine E_iload dX11_check_49 rfl ?_
      refine E_iload_n dX11_check_51 rfl ?_
      refine E_icmp_ge dX11_check_52 (fun c52 => ?_) (fun c52 => ?_)
      · refine E_iload_n dX11_check_128 rfl ?_
        refine E_iload_n dX11_check_129 rfl ?_
        refine E_icmp_ne dX11_check_130 (fun c130 => ?_) (fun c130 => ?_)
        · refine E_ic (v := 1) dX11_check_137 (by decide) ?_
          refine E_iload_n dX11_check_138 rfl ?_
          refine E_iadd dX11_check_139 ?_
          refine E_iret dX11_check_140 rfl rfl ?_
          rw [ckF, if_neg (fun e => c130 (by rw [e]))] at hq
          rw [show (1 : Int32) + nI r = nI (1 + r) from nI_add 1 r]
          exact hq S WF.rf
        · refine E_ic (v := 0) dX11_check_133 (by decide) ?_
          refine E_goto dX11_check_134 ?_
          refine E_iret dX11_check_140 rfl rfl ?_
          rw [ckF, if_pos (nI_inj (by omega) (by omega) c130)] at hq
          exact hq S WF.rf
      · refine E_aload_n dX11_check_55 rfl ?_
        refine L_get fX11_90 dX11_check_56 (by decide) sh_0 rfl ?_
        refine W_get (j := 10) (i := 2) hR isW64 (by decide) fX11_208 dX11_check_59 ?_
        refine E_sipush (v := 9999) dX11_check_62 (by decide) ?_
        refine E_icmp_ge dX11_check_65 (fun _ => ?_) (fun c => absurd (by rw [h2]; exact nI_le (a := 9999) h (by omega)) c)
        refine E_iload_n dX11_check_128 rfl ?_
        refine E_iload_n dX11_check_129 rfl ?_
        refine E_icmp_ne dX11_check_130 (fun c130 => ?_) (fun c130 => ?_)
        · refine E_ic (v := 1) dX11_check_137 (by decide) ?_
          refine E_iload_n dX11_check_138 rfl ?_
          refine E_iadd dX11_check_139 ?_
          refine E_iret dX11_check_140 rfl rfl ?_
          rw [ckF, if_neg (fun e => c130 (by rw [e]))] at hq
          rw [show (1 : Int32) + nI r = nI (1 + r) from nI_add 1 r]
          exact hq S WF.rf
        · refine E_ic (v := 0) dX11_check_133 (by decide) ?_
          refine E_goto dX11_check_134 ?_
          refine E_iret dX11_check_140 rfl rfl ?_
          rw [ckF, if_pos (nI_inj (by omega) (by omega) c130)] at hq
          exact hq S WF.rf
  | succ f ih =>
    intro u S x4 i k r hx4 h2 hf hik hr hR iv hT hm hmm ht hq
    refine E_iload dX11_check_49 rfl ?_
    refine E_iload_n dX11_check_51 rfl ?_
    refine E_icmp_ge dX11_check_52 (fun c => absurd c (ge_no (by omega) (by omega) hx4 (by omega))) (fun _ => ?_)
    refine E_aload_n dX11_check_55 rfl ?_
    refine L_get fX11_90 dX11_check_56 (by decide) sh_0 rfl ?_
    refine W_get (j := 10) (i := 2) hR isW64 (by decide) fX11_208 dX11_check_59 ?_
    refine E_sipush (v := 9999) dX11_check_62 (by decide) ?_
    refine E_icmp_ge dX11_check_65 (fun c => absurd c (by rw [h2]; exact nI_ge (b := 9999) (by omega) (by omega))) (fun _ => ?_)
    refine E_aload_n dX11_check_68 rfl ?_
    refine L_get fX11_90 dX11_check_69 (by decide) sh_0 rfl ?_
    refine E_V0v vX11_211_10 dX11_check_72 (Nat.le_of_ble_eq_true rfl) (by have := (isW64).lt; omega) ((sh_W isW64) _) (s_X10_passMinute isW64 hR iv hT (fun S72 h72 f72 => ?_))
    refine E_aload_n dX11_check_75 rfl ?_
    refine E_iload_n dX11_check_76 rfl ?_
    refine E_iload_n dX11_check_77 rfl ?_
    refine E_aload_n dX11_check_78 rfl ?_
    refine L_get fX11_90 dX11_check_79 (by decide) sh_0 rfl ?_
    refine L_get fX11_205 dX11_check_82 (by have := (isW64).lt; omega) (sh_W isW64) rfl ?_
    refine E_ic (v := 0) dX11_check_85 (by decide) ?_
    refine T_get (j := 0) h72 isW64 dX11_check_86 rfl (by decide) ?_
    have ht72 : ∀ q, q < many → S72 10 q = t q := fun q hq => by rw [f72 10 (by omega) (by omega)]; exact ht q hq
    refine E_V3i vX11_330_11 dX11_check_87 (Nat.le_of_ble_eq_true rfl) (by decide) (sh_0 _) (s_X11_waitsAt (p := r) (by omega) h60 (fun ga gb => ?_) (fun g1 => ?_))
    · have g1 : r < many ∧ t r = miV u 10 := ⟨ga, (ht72 r ga) ▸ gb⟩
      refine E_if_ne dX11_check_90 (fun _ => ?_) (fun c => absurd c (by decide))
      refine E_aload_n dX11_check_97 rfl ?_
      refine E_iload_n dX11_check_98 rfl ?_
      refine E_ic (v := 1) dX11_check_99 (by decide) ?_
      refine E_iadd dX11_check_100 ?_
      rw [nI_1]
      refine E_iload_n dX11_check_101 rfl ?_
      refine E_aload_n dX11_check_102 rfl ?_
      refine L_get fX11_90 dX11_check_103 (by decide) sh_0 rfl ?_
      refine E_V0i vX11_214_10 dX11_check_106 (Nat.le_of_ble_eq_true rfl) (by have := (isW64).lt; omega) ((sh_W isW64) _) (s_X10_heatOfAll isW64 h72 ((mN_miN iv 1).trans hmm) hm9 (mi_m iv hm) ?_)
      refine E_V3i vX11_330_11 dX11_check_109 (Nat.le_of_ble_eq_true rfl) (by decide) (sh_0 _) (s_X11_waitsAt (p := r + 1) (by omega) h60 (fun gc gd => ?_) (fun g2 => ?_))
      · have g2 : r + 1 < many ∧ t (r + 1) = teF (miV u) (mN (miV u)) := ⟨gc, (ht72 _ gc) ▸ gd⟩
        refine E_if_ne dX11_check_112 (fun _ => ?_) (fun c => absurd c (by decide))
        refine E_iinc (v := 2) dX11_check_119 rfl (by decide) (by decide) ?_
        refine E_iinc (v := 1) dX11_check_122 rfl (by decide) (by decide) ?_
        refine E_goto dX11_check_125 ?_
        rw [ck_go g1 g2] at hq
        rw [show nI r + 2 = nI (r + 2) from nI_add r 2]
        exact E.loc (by exact ⟨rfl, rfl, rfl, rfl, rfl, trivial⟩) (ih (miV u) S72 _ (i + 1) (k + 1) (r + 2) (by rw [hx4, nI_1]) (by rw [mi_2 iv, h2, nI_1]) (by omega) (by omega) (by omega) h72 (IV_mi iv) (hT.keep isW64 f72 (mi_hi iv) (mi_un iv (Or.inr (Or.inl rfl))) (tN_le iv)) (mi_m iv hm) ((mN_miN iv 1).trans hmm) ht72 (fun S9 b9 => hq S9 (f72.tr b9)))
      · have g2 : ¬ (r + 1 < many ∧ t (r + 1) = teF (miV u) (mN (miV u))) := fun g => g2 ⟨g.1, (ht72 _ g.1).trans g.2⟩
        refine E_if_ne dX11_check_112 (fun c => absurd rfl c) (fun _ => ?_)
        refine E_ic (v := 2) dX11_check_115 (by decide) ?_
        refine E_iload_n dX11_check_116 rfl ?_
        refine E_iadd dX11_check_117 ?_
        refine E_iret dX11_check_118 rfl rfl ?_
        rw [ck_two g1 g2] at hq
        rw [show (2 : Int32) + nI r = nI (2 + r) from nI_add 2 r]
        exact hq S72 f72
    · have g1 : ¬ (r < many ∧ t r = miV u 10) := fun g => g1 ⟨g.1, (ht72 r g.1).trans g.2⟩
      refine E_if_ne dX11_check_90 (fun c => absurd rfl c) (fun _ => ?_)
      refine E_ic (v := 1) dX11_check_93 (by decide) ?_
      refine E_iload_n dX11_check_94 rfl ?_
      refine E_iadd dX11_check_95 ?_
      refine E_iret dX11_check_96 rfl rfl ?_
      rw [ck_one g1] at hq
      rw [show (1 : Int32) + nI r = nI (1 + r) from nI_add 1 r]
      exact hq S72 f72
def CKF (S S' : SS) : Prop := S' 0 = upd (S 0) 13 0 ∧ ∀ k, k ≠ 0 → (k < 64 ∨ 86 ≤ k) → (∀ t, t < 15 → k ≠ 86 + 3 * t + 2) → S' k = S k
theorem CKF.b {S : SS} : CKF S (wr S 0 13 0) := ⟨wr_at, fun _ h _ _ => wr_ne h⟩
theorem CKF.w {S S' : SS} (h : WF 64 (wr S 0 13 0) S') : CKF S S' := ⟨(h 0 (by omega) (fun t ht => by omega)).trans wr_at, fun k a b c => (h k (by omega) c).trans (wr_ne a)⟩
theorem s_X11_check {Q : Int32 → HP → Prop} {u : WV} (hhas : S 0 4 = 0 ∨ S 0 4 = 1 ∧ WRep S 42 u ∧ IV u ∧ TRep S u ∧ ∃ k, k ≤ 9999 ∧ u 2 = nI k) {many : Nat} (hmany : S 0 13 = nI many) (h60 : many ≤ 60) {t : Nat → Int32} (ht : ∀ q, q < many → S 10 q = t q) {x : Int32} (hq : ∀ S', CKF S S' → Q (checkR (S 0 4) u t many x) (lay Θ S')) : C Θ (d + 6) 0 0 yX11_check cX11_check 5 (some .int) [.ref (tb Θ + 0), .int x] 183 (lay Θ S) (Qi Q) := by
  refine C_of rfl rfl (Nat.le_of_ble_eq_true rfl) ?_
  rcases hhas with h4 | ⟨h4, hR, iv, hT, k, hk, h2⟩
  · refine E_aload_n dX11_check_0 rfl ?_
    refine L_get fX11_323 dX11_check_1 (by decide) sh_0 rfl ?_
    rw [hmany]
    refine E_istore_n dX11_check_4 (by decide) ?_
    refine E_aload_n dX11_check_5 rfl ?_
    refine E_ic (v := 0) dX11_check_6 (by decide) ?_
    refine L_puti fX11_323 dX11_check_7 (by decide) sh_0 (Nat.le_of_ble_eq_true rfl) rfl ?_
    refine E_iload_n dX11_check_10 rfl ?_
    refine E_ic (v := 1) dX11_check_11 (by decide) ?_
    refine E_bipush (v := 30) dX11_check_12 (by decide) ?_
    refine E_S3i sX11_145 dX11_check_14 (Nat.le_of_ble_eq_true rfl) (s_X11_within (fun g1a g1b => ?_) (fun g1 => ?_))
    · refine E_if_ne dX11_check_17 (fun _ => ?_) (fun c => absurd c (by decide))
      refine E_aload_n dX11_check_23 rfl ?_
      refine L_get fX11_326 dX11_check_24 (by decide) sh_0 rfl ?_
      refine E_if_ne dX11_check_27 (fun c => absurd (by rw [wr_at, pk_un (by decide)]; exact h4) c) (fun _ => ?_)
      refine E_ldc dX11_check_30 kX11_153 ?_
      refine E_iret dX11_check_32 rfl rfl ?_
      rw [checkR, if_pos ⟨g1a, g1b⟩, if_pos h4] at hq
      exact hq _ CKF.b
    · refine E_if_ne dX11_check_17 (fun c => absurd rfl c) (fun _ => ?_)
      refine E_ldc dX11_check_20 kX11_105 ?_
      refine E_iret dX11_check_22 rfl rfl ?_
      rw [checkR, if_neg g1] at hq
      exact hq _ CKF.b
  · refine E_aload_n dX11_check_0 rfl ?_
    refine L_get fX11_323 dX11_check_1 (by decide) sh_0 rfl ?_
    rw [hmany]
    refine E_istore_n dX11_check_4 (by decide) ?_
    refine E_aload_n dX11_check_5 rfl ?_
    refine E_ic (v := 0) dX11_check_6 (by decide) ?_
    refine L_puti fX11_323 dX11_check_7 (by decide) sh_0 (Nat.le_of_ble_eq_true rfl) rfl ?_
    refine E_iload_n dX11_check_10 rfl ?_
    refine E_ic (v := 1) dX11_check_11 (by decide) ?_
    refine E_bipush (v := 30) dX11_check_12 (by decide) ?_
    refine E_S3i sX11_145 dX11_check_14 (Nat.le_of_ble_eq_true rfl) (s_X11_within (fun g1a g1b => ?_) (fun g1 => ?_))
    · refine E_if_ne dX11_check_17 (fun _ => ?_) (fun c => absurd c (by decide))
      refine E_aload_n dX11_check_23 rfl ?_
      refine L_get fX11_326 dX11_check_24 (by decide) sh_0 rfl ?_
      refine E_if_ne dX11_check_27 (fun _ => ?_) (fun c => absurd c (by rw [wr_at, pk_un (by decide), h4]; decide))
      refine E_aload_n dX11_check_33 rfl ?_
      refine L_get fX11_90 dX11_check_34 (by decide) sh_0 rfl ?_
      refine E_aload_n dX11_check_37 rfl ?_
      refine L_get fX11_87 dX11_check_38 (by decide) sh_0 rfl ?_
      obtain ⟨n, hn, en⟩ := isIx_le (n := 30) (by decide) (Int32.le_trans (by decide) g1a) g1b
      obtain ⟨m, hm9, hm, hpa⟩ := iv.1
      have hmm : mN u = m := mN_of hm hm9
      have hR0 : WRep (wr S 0 13 0) 42 u := hR.sm (by omega) (fun k a b => wr_ne (by omega))
      have hT0 : TRep (wr S 0 13 0) u := hT.sm (tN_le iv) (fun t ht => ⟨wr_ne (by omega), wr_ne (by omega)⟩)
      refine E_V1v vX11_230_10 dX11_check_41 (Nat.le_of_ble_eq_true rfl) (by have := (isW64).lt; omega) ((sh_W isW64) _) (s_X10_becomeAs isW64 isW42 (by decide) hR0 hmm hm9 hm (law_ix hR0 iv) (fun S41 h41 f41 => ?_))
      refine E_ic (v := 0) dX11_check_44 (by decide) ?_
      refine E_istore_n dX11_check_45 (by decide) ?_
      refine E_ic (v := 0) dX11_check_46 (by decide) ?_
      refine E_istore dX11_check_47 (by decide) ?_
      rw [checkR, if_pos ⟨g1a, g1b⟩, if_neg (by rw [h4]; decide), en, nI_clamp (by omega), h2, nI_clamp (by omega)] at hq
      rw [en]
      exact E.loc (by exact ⟨rfl, rfl, rfl, rfl, rfl, trivial⟩) (l_X11_check (n := n) (by omega) h60 hm9 (min (9999 - k) n) u S41 0 0 k 0 rfl h2 (by omega) (by omega) (by omega) h41 iv (hT0.keep isW64 f41 eqHi.rf rfl (tN_le iv)) hm hmm (fun q hq => by rw [f41 10 (by omega) (by omega), wr_ne (by decide)]; exact ht q hq) (fun S9 b9 => hq S9 (CKF.w (f41.tr b9))))
    · refine E_if_ne dX11_check_17 (fun c => absurd rfl c) (fun _ => ?_)
      refine E_ldc dX11_check_20 kX11_105 ?_
      refine E_iret dX11_check_22 rfl rfl ?_
      rw [checkR, if_neg g1] at hq
      exact hq _ CKF.b
theorem dbl {x : Int32} {k : Nat} (h : x = nI k) : 2 * x = nI (2 * k) := by rw [h]; exact pk_mul 2 k
theorem ck_end {r many g : Nat} (h : r = 2 * g) : (if r = many ∧ r = 2 * g then (0 : Int32) else nI (1 + r)) = (if r = many then 0 else nI (1 + r)) := by
  by_cases c : r = many
  · rw [if_pos ⟨c, h⟩, if_pos c]
  · rw [if_neg (fun z => c z.1), if_neg c]
def MC (S S' : SS) : Prop := ∀ k, k ≠ 160 → k ≠ 162 → k ≠ 172 → k ≠ 173 → S' k = S k
theorem MC.rf {S : SS} : MC S S := fun _ _ _ _ _ => rfl
theorem MC.tr {S S' S'' : SS} (h : MC S S') (h' : MC S' S'') : MC S S'' := fun k a b c e => (h' k a b c e).trans (h k a b c e)
theorem MF.mc {S S' : SS} (h : MF S S') : MC S S' := fun k a _ c e => h k a c e
theorem l_X12_check180 {Q : Int32 → HP → Prop} {g many r : Nat} (hg : g ≤ 30) (h60 : many ≤ 60) (hr : r ≤ 100) {u : WV} (hv : S 160 = u) (hA : ∀ j, j < 1468 → S 162 j = v j) (hH : ∀ j, 1468 ≤ j → u j = v j) {a1 x5 : Int32} (hq : ∀ S', S' 160 = v → MC S S' → Q (if r = many ∧ r = 2 * g then 0 else nI (1 + r)) (lay Θ S')) : E Θ (d + 5) 0 0 yX12_check cX12_check 6 (some .int) 0 0 183 (lay Θ S) 180 [(5, .int x5), (4, .int (nI r)), (3, .int (nI (2 * g))), (2, .int (nI many)), (1, .int a1), (0, .ref (tb Θ + 159))] [] (Qi Q) := by
  refine E_aload_n dX12_check_180 rfl ?_
  refine L_get fX12_16 dX12_check_181 (by decide) sh_159 rfl ?_
  refine E_aload_n dX12_check_184 rfl ?_
  refine L_get fX12_9 dX12_check_185 (by decide) sh_159 rfl ?_
  refine E_S2v sX12_177 dX12_check_188 (Nat.le_of_ble_eq_true rfl) (s_X12_copyAll (a := 162) (b := 160) (by decide) sh_162 (by decide) sh_160 (by decide) (fun S188 a188 b188 c188 => ?_))
  have e188 : S188 160 = v := by
    funext j
    rcases Nat.lt_or_ge j 1468 with h | h
    · exact (a188 j h).trans (hA j h)
    · rw [b188 j h, hv, hH j h]
  have f188 : MC S S188 := fun j a _ _ _ => c188 j a
  refine E_iload dX12_check_191 rfl ?_
  refine E_iload_n dX12_check_193 rfl ?_
  refine E_icmp_ne dX12_check_194 (fun c194 => ?_) (fun c194 => ?_)
  · refine E_ic (v := 1) dX12_check_207 (by decide) ?_
    refine E_iload dX12_check_208 rfl ?_
    refine E_iadd dX12_check_210 ?_
    refine E_iret dX12_check_211 rfl rfl ?_
    rw [if_neg (fun h => c194 (by rw [h.1]))] at hq
    rw [show (1 : Int32) + nI r = nI (1 + r) from nI_add 1 r]
    exact hq S188 e188 f188
  · refine E_iload dX12_check_197 rfl ?_
    refine E_iload_n dX12_check_199 rfl ?_
    refine E_icmp_ne dX12_check_200 (fun c200 => ?_) (fun c200 => ?_)
    · refine E_ic (v := 1) dX12_check_207 (by decide) ?_
      refine E_iload dX12_check_208 rfl ?_
      refine E_iadd dX12_check_210 ?_
      refine E_iret dX12_check_211 rfl rfl ?_
      rw [if_neg (fun h => c200 (by rw [h.2]))] at hq
      rw [show (1 : Int32) + nI r = nI (1 + r) from nI_add 1 r]
      exact hq S188 e188 f188
    · refine E_ic (v := 0) dX12_check_203 (by decide) ?_
      refine E_goto dX12_check_204 ?_
      refine E_iret dX12_check_211 rfl rfl ?_
      rw [if_pos ⟨nI_inj (by omega) (by omega) c194, nI_inj (by omega) (by omega) c200⟩] at hq
      exact hq S188 e188 f188
theorem ad0 {r : Nat} : nI r + 0 = nI r := by rw [Int32.add_zero]
theorem l_X12_check79 {Q : Int32 → HP → Prop} {g many m : Nat} (hg : g ≤ 30) (h60 : many ≤ 60) (hm9 : m ≤ 9) {t : Nat → Int32} {a1 : Int32} : ∀ (f : Nat) (u : WV) (S : SS) (x4 x5 : Int32) (k r : Nat), x5 = nI k → x4 = nI r → r = 2 * k → k + f = g → S 160 = u → IV u → u 1 = nI m → (∀ q, q < many → S 182 q = t q) → (∀ j, j < 1468 → S 162 j = v j) → (∀ j, 1468 ≤ j → u j = v j) → (∀ S', S' 160 = v → MC S S' → Q (ckF t many f u r) (lay Θ S')) → E Θ (d + 5) 0 0 yX12_check cX12_check 6 (some .int) 0 0 183 (lay Θ S) 79 [(5, .int x5), (4, .int x4), (3, .int (nI (2 * g))), (2, .int (nI many)), (1, .int a1), (0, .ref (tb Θ + 159))] [] (Qi Q) := by
  intro f
  induction f with
  | zero =>
    intro u S x4 x5 k r hx5 hx4 hr hkf hv iv hm ht hA hH hq
    refine E_ic (v := 2) dX12_check_79 (by decide) ?_
    refine E_iload dX12_check_80 rfl ?_
    refine E_imul dX12_check_82 ?_
    rw [dbl hx5]
    refine E_iload_n dX12_check_83 rfl ?_
    refine E_icmp_ge dX12_check_84 (fun _ => ?_) (fun c => absurd (nI_le (by omega) (by omega)) c)
    rw [hx4]
    exact E.loc (by exact ⟨rfl, rfl, rfl, rfl, rfl, rfl, trivial⟩) (l_X12_check180 hg h60 (by omega) hv hA hH (fun S9 a9 b9 => by rw [ck_end (by omega)]; exact hq S9 a9 b9))
  | succ f ih =>
    intro u S x4 x5 k r hx5 hx4 hr hkf hv iv hm ht hA hH hq
    have hm' := mi_m iv hm
    have hmm' : mN (miV u) = m := mN_of hm' hm9
    subst hx4
    rcases Nat.lt_or_ge r many with hlt | hlt
    rotate_left
    · have g1 : ¬ (r < many ∧ t r = miV u 10) := fun z => absurd z.1 (by omega)
      refine E_ic (v := 2) dX12_check_79 (by decide) ?_
      refine E_iload dX12_check_80 rfl ?_
      refine E_imul dX12_check_82 ?_
      rw [dbl hx5]
      refine E_iload_n dX12_check_83 rfl ?_
      refine E_icmp_ge dX12_check_84 (fun c => absurd c (nI_ge (by omega) (by omega))) (fun _ => ?_)
      refine E_iload dX12_check_87 rfl ?_
      refine E_ic (v := 2) dX12_check_89 (by decide) ?_
      refine E_iload dX12_check_90 rfl ?_
      refine E_imul dX12_check_92 ?_
      rw [dbl hx5]
      refine E_icmp_ne dX12_check_93 (fun c => absurd (by rw [hr]) c) (fun _ => ?_)
      refine E_aload_n dX12_check_96 rfl ?_
      refine E_V0v vX12_165_12 dX12_check_97 (Nat.le_of_ble_eq_true rfl) (by decide) (sh_159 _) (s_X12_minute hv iv (fun S97 h97 f97 => ?_))
      have ht97 : ∀ q, q < many → S97 182 q = t q := fun q hq => by rw [f97 182 (by decide) (by decide) (by decide)]; exact ht q hq
      have hA97 : ∀ j, j < 1468 → S97 162 j = v j := fun j hj => by rw [f97 162 (by decide) (by decide) (by decide)]; exact hA j hj
      have hH97 : ∀ j, 1468 ≤ j → miV u j = v j := fun j hj => by rw [mi_un iv (Or.inr (Or.inr (by omega)))]; exact hH j hj
      refine E_iload dX12_check_100 rfl ?_
      refine E_iload dX12_check_102 rfl ?_
      refine E_iload_n dX12_check_104 rfl ?_
      refine E_icmp_ge dX12_check_105 (fun _ => ?_) (fun c => absurd (nI_le hlt (by omega)) c)
      refine E_ic (v := 0) dX12_check_129 (by decide) ?_
      refine E_iadd dX12_check_130 ?_
      rw [ad0]
      refine E_istore dX12_check_131 (by decide) ?_
      refine E_iload dX12_check_133 rfl ?_
      refine E_iload dX12_check_135 rfl ?_
      refine E_ic (v := 2) dX12_check_137 (by decide) ?_
      refine E_iload dX12_check_138 rfl ?_
      refine E_imul dX12_check_140 ?_
      rw [dbl hx5]
      refine E_ic (v := 1) dX12_check_141 (by decide) ?_
      refine E_iadd dX12_check_142 ?_
      rw [nI_1]
      refine E_icmp_ne dX12_check_143 (fun _ => ?_) (fun c => absurd c (fun e => absurd (nI_inj (by omega) (by omega) e) (by omega)))
      refine E_ic (v := 0) dX12_check_170 (by decide) ?_
      refine E_iadd dX12_check_171 ?_
      rw [ad0]
      refine E_istore dX12_check_172 (by decide) ?_
      refine E_iinc (v := 1) dX12_check_174 rfl (by decide) (by decide) ?_
      refine E_goto dX12_check_177 ?_
      have hx5b : x5 + 1 = nI (k + 1) := by rw [hx5, nI_1]
      refine E_ic (v := 2) dX12_check_79 (by decide) ?_
      refine E_iload dX12_check_80 rfl ?_
      refine E_imul dX12_check_82 ?_
      rw [dbl hx5b]
      refine E_iload_n dX12_check_83 rfl ?_
      refine E_icmp_ge dX12_check_84 (fun c84 => ?_) (fun c84 => ?_)
      · rw [ck_one g1] at hq
        exact E.loc (by exact ⟨rfl, rfl, rfl, rfl, rfl, rfl, trivial⟩) (l_X12_check180 (r := r) hg h60 (by omega) h97 hA97 hH97 (fun S9 a9 b9 => by rw [if_neg (fun z => absurd z.2 (by omega))]; exact hq S9 a9 (f97.mc.tr b9)))
      · refine E_iload dX12_check_87 rfl ?_
        refine E_ic (v := 2) dX12_check_89 (by decide) ?_
        refine E_iload dX12_check_90 rfl ?_
        refine E_imul dX12_check_92 ?_
        rw [dbl hx5b]
        refine E_icmp_ne dX12_check_93 (fun _ => ?_) (fun c => absurd c (fun e => absurd (nI_inj (by omega) (by omega) e) (by omega)))
        rw [ck_one g1] at hq
        exact E.loc (by exact ⟨rfl, rfl, rfl, rfl, rfl, rfl, trivial⟩) (l_X12_check180 (r := r) hg h60 (by omega) h97 hA97 hH97 (fun S9 a9 b9 => by rw [if_neg (fun z => absurd z.2 (by omega))]; exact hq S9 a9 (f97.mc.tr b9)))
    by_cases heq : t r = miV u 10
    rotate_left
    · have g1 : ¬ (r < many ∧ t r = miV u 10) := fun z => heq z.2
      refine E_ic (v := 2) dX12_check_79 (by decide) ?_
      refine E_iload dX12_check_80 rfl ?_
      refine E_imul dX12_check_82 ?_
      rw [dbl hx5]
      refine E_iload_n dX12_check_83 rfl ?_
      refine E_icmp_ge dX12_check_84 (fun c => absurd c (nI_ge (by omega) (by omega))) (fun _ => ?_)
      refine E_iload dX12_check_87 rfl ?_
      refine E_ic (v := 2) dX12_check_89 (by decide) ?_
      refine E_iload dX12_check_90 rfl ?_
      refine E_imul dX12_check_92 ?_
      rw [dbl hx5]
      refine E_icmp_ne dX12_check_93 (fun c => absurd (by rw [hr]) c) (fun _ => ?_)
      refine E_aload_n dX12_check_96 rfl ?_
      refine E_V0v vX12_165_12 dX12_check_97 (Nat.le_of_ble_eq_true rfl) (by decide) (sh_159 _) (s_X12_minute hv iv (fun S97 h97 f97 => ?_))
      have ht97 : ∀ q, q < many → S97 182 q = t q := fun q hq => by rw [f97 182 (by decide) (by decide) (by decide)]; exact ht q hq
      have hA97 : ∀ j, j < 1468 → S97 162 j = v j := fun j hj => by rw [f97 162 (by decide) (by decide) (by decide)]; exact hA j hj
      have hH97 : ∀ j, 1468 ≤ j → miV u j = v j := fun j hj => by rw [mi_un iv (Or.inr (Or.inr (by omega)))]; exact hH j hj
      refine E_iload dX12_check_100 rfl ?_
      refine E_iload dX12_check_102 rfl ?_
      refine E_iload_n dX12_check_104 rfl ?_
      refine E_icmp_ge dX12_check_105 (fun c => absurd c (nI_ge (by omega) (by omega))) (fun _ => ?_)
      refine E_aload_n dX12_check_108 rfl ?_
      refine L_get fX12_78 dX12_check_109 (by decide) sh_159 rfl ?_
      refine E_iload dX12_check_112 rfl ?_
      refine L_iald (j := r) dX12_check_114 (by decide) sh_182 rfl (by omega) (by decide) ?_
      rw [ht97 r hlt]
      refine E_aload_n dX12_check_115 rfl ?_
      refine L_get fX12_9 dX12_check_116 (by decide) sh_159 rfl ?_
      refine E_bipush (v := 10) dX12_check_119 (by decide) ?_
      refine N_iald (j := 10) dX12_check_121 rfl (by decide) h97 ?_
      refine E_icmp_ne dX12_check_122 (fun _ => ?_) (fun c => absurd c heq)
      refine E_ic (v := 0) dX12_check_129 (by decide) ?_
      refine E_iadd dX12_check_130 ?_
      rw [ad0]
      refine E_istore dX12_check_131 (by decide) ?_
      refine E_iload dX12_check_133 rfl ?_
      refine E_iload dX12_check_135 rfl ?_
      refine E_ic (v := 2) dX12_check_137 (by decide) ?_
      refine E_iload dX12_check_138 rfl ?_
      refine E_imul dX12_check_140 ?_
      rw [dbl hx5]
      refine E_ic (v := 1) dX12_check_141 (by decide) ?_
      refine E_iadd dX12_check_142 ?_
      rw [nI_1]
      refine E_icmp_ne dX12_check_143 (fun _ => ?_) (fun c => absurd c (fun e => absurd (nI_inj (by omega) (by omega) e) (by omega)))
      refine E_ic (v := 0) dX12_check_170 (by decide) ?_
      refine E_iadd dX12_check_171 ?_
      rw [ad0]
      refine E_istore dX12_check_172 (by decide) ?_
      refine E_iinc (v := 1) dX12_check_174 rfl (by decide) (by decide) ?_
      refine E_goto dX12_check_177 ?_
      have hx5b : x5 + 1 = nI (k + 1) := by rw [hx5, nI_1]
      refine E_ic (v := 2) dX12_check_79 (by decide) ?_
      refine E_iload dX12_check_80 rfl ?_
      refine E_imul dX12_check_82 ?_
      rw [dbl hx5b]
      refine E_iload_n dX12_check_83 rfl ?_
      refine E_icmp_ge dX12_check_84 (fun c84 => ?_) (fun c84 => ?_)
      · rw [ck_one g1] at hq
        exact E.loc (by exact ⟨rfl, rfl, rfl, rfl, rfl, rfl, trivial⟩) (l_X12_check180 (r := r) hg h60 (by omega) h97 hA97 hH97 (fun S9 a9 b9 => by rw [if_neg (fun z => absurd z.2 (by omega))]; exact hq S9 a9 (f97.mc.tr b9)))
      · refine E_iload dX12_check_87 rfl ?_
        refine E_ic (v := 2) dX12_check_89 (by decide) ?_
        refine E_iload dX12_check_90 rfl ?_
        refine E_imul dX12_check_92 ?_
        rw [dbl hx5b]
        refine E_icmp_ne dX12_check_93 (fun _ => ?_) (fun c => absurd c (fun e => absurd (nI_inj (by omega) (by omega) e) (by omega)))
        rw [ck_one g1] at hq
        exact E.loc (by exact ⟨rfl, rfl, rfl, rfl, rfl, rfl, trivial⟩) (l_X12_check180 (r := r) hg h60 (by omega) h97 hA97 hH97 (fun S9 a9 b9 => by rw [if_neg (fun z => absurd z.2 (by omega))]; exact hq S9 a9 (f97.mc.tr b9)))
    have g1 : r < many ∧ t r = miV u 10 := ⟨hlt, heq⟩
    rcases Nat.lt_or_ge (r + 1) many with hlt2 | hlt2
    rotate_left
    · have g2 : ¬ (r + 1 < many ∧ t (r + 1) = teF (miV u) (mN (miV u))) := fun z => absurd z.1 (by omega)
      refine E_ic (v := 2) dX12_check_79 (by decide) ?_
      refine E_iload dX12_check_80 rfl ?_
      refine E_imul dX12_check_82 ?_
      rw [dbl hx5]
      refine E_iload_n dX12_check_83 rfl ?_
      refine E_icmp_ge dX12_check_84 (fun c => absurd c (nI_ge (by omega) (by omega))) (fun _ => ?_)
      refine E_iload dX12_check_87 rfl ?_
      refine E_ic (v := 2) dX12_check_89 (by decide) ?_
      refine E_iload dX12_check_90 rfl ?_
      refine E_imul dX12_check_92 ?_
      rw [dbl hx5]
      refine E_icmp_ne dX12_check_93 (fun c => absurd (by rw [hr]) c) (fun _ => ?_)
      refine E_aload_n dX12_check_96 rfl ?_
      refine E_V0v vX12_165_12 dX12_check_97 (Nat.le_of_ble_eq_true rfl) (by decide) (sh_159 _) (s_X12_minute hv iv (fun S97 h97 f97 => ?_))
      have ht97 : ∀ q, q < many → S97 182 q = t q := fun q hq => by rw [f97 182 (by decide) (by decide) (by decide)]; exact ht q hq
      have hA97 : ∀ j, j < 1468 → S97 162 j = v j := fun j hj => by rw [f97 162 (by decide) (by decide) (by decide)]; exact hA j hj
      have hH97 : ∀ j, 1468 ≤ j → miV u j = v j := fun j hj => by rw [mi_un iv (Or.inr (Or.inr (by omega)))]; exact hH j hj
      refine E_iload dX12_check_100 rfl ?_
      refine E_iload dX12_check_102 rfl ?_
      refine E_iload_n dX12_check_104 rfl ?_
      refine E_icmp_ge dX12_check_105 (fun c => absurd c (nI_ge (by omega) (by omega))) (fun _ => ?_)
      refine E_aload_n dX12_check_108 rfl ?_
      refine L_get fX12_78 dX12_check_109 (by decide) sh_159 rfl ?_
      refine E_iload dX12_check_112 rfl ?_
      refine L_iald (j := r) dX12_check_114 (by decide) sh_182 rfl (by omega) (by decide) ?_
      rw [ht97 r hlt]
      refine E_aload_n dX12_check_115 rfl ?_
      refine L_get fX12_9 dX12_check_116 (by decide) sh_159 rfl ?_
      refine E_bipush (v := 10) dX12_check_119 (by decide) ?_
      refine N_iald (j := 10) dX12_check_121 rfl (by decide) h97 ?_
      refine E_icmp_ne dX12_check_122 (fun c => absurd heq c) (fun _ => ?_)
      refine E_ic (v := 1) dX12_check_125 (by decide) ?_
      refine E_goto dX12_check_126 ?_
      refine E_iadd dX12_check_130 ?_
      rw [nI_1]
      refine E_istore dX12_check_131 (by decide) ?_
      refine E_iload dX12_check_133 rfl ?_
      refine E_iload dX12_check_135 rfl ?_
      refine E_ic (v := 2) dX12_check_137 (by decide) ?_
      refine E_iload dX12_check_138 rfl ?_
      refine E_imul dX12_check_140 ?_
      rw [dbl hx5]
      refine E_ic (v := 1) dX12_check_141 (by decide) ?_
      refine E_iadd dX12_check_142 ?_
      rw [nI_1]
      refine E_icmp_ne dX12_check_143 (fun c => absurd (by rw [hr]) c) (fun _ => ?_)
      refine E_iload dX12_check_146 rfl ?_
      refine E_iload_n dX12_check_148 rfl ?_
      refine E_icmp_ge dX12_check_149 (fun _ => ?_) (fun c => absurd (nI_le hlt2 (by omega)) c)
      refine E_ic (v := 0) dX12_check_170 (by decide) ?_
      refine E_iadd dX12_check_171 ?_
      rw [ad0]
      refine E_istore dX12_check_172 (by decide) ?_
      refine E_iinc (v := 1) dX12_check_174 rfl (by decide) (by decide) ?_
      refine E_goto dX12_check_177 ?_
      have hx5b : x5 + 1 = nI (k + 1) := by rw [hx5, nI_1]
      refine E_ic (v := 2) dX12_check_79 (by decide) ?_
      refine E_iload dX12_check_80 rfl ?_
      refine E_imul dX12_check_82 ?_
      rw [dbl hx5b]
      refine E_iload_n dX12_check_83 rfl ?_
      refine E_icmp_ge dX12_check_84 (fun c84 => ?_) (fun c84 => ?_)
      · rw [ck_two g1 g2] at hq
        exact E.loc (by exact ⟨rfl, rfl, rfl, rfl, rfl, rfl, trivial⟩) (l_X12_check180 (r := r + 1) hg h60 (by omega) h97 hA97 hH97 (fun S9 a9 b9 => by rw [if_neg (fun z => absurd z.2 (by omega)), show 1 + (r + 1) = 2 + r by omega]; exact hq S9 a9 (f97.mc.tr b9)))
      · refine E_iload dX12_check_87 rfl ?_
        refine E_ic (v := 2) dX12_check_89 (by decide) ?_
        refine E_iload dX12_check_90 rfl ?_
        refine E_imul dX12_check_92 ?_
        rw [dbl hx5b]
        refine E_icmp_ne dX12_check_93 (fun _ => ?_) (fun c => absurd c (fun e => absurd (nI_inj (by omega) (by omega) e) (by omega)))
        rw [ck_two g1 g2] at hq
        exact E.loc (by exact ⟨rfl, rfl, rfl, rfl, rfl, rfl, trivial⟩) (l_X12_check180 (r := r + 1) hg h60 (by omega) h97 hA97 hH97 (fun S9 a9 b9 => by rw [if_neg (fun z => absurd z.2 (by omega)), show 1 + (r + 1) = 2 + r by omega]; exact hq S9 a9 (f97.mc.tr b9)))
    by_cases heq2 : t (r + 1) = teF (miV u) (mN (miV u))
    rotate_left
    · have g2 : ¬ (r + 1 < many ∧ t (r + 1) = teF (miV u) (mN (miV u))) := fun z => heq2 z.2
      refine E_ic (v := 2) dX12_check_79 (by decide) ?_
      refine E_iload dX12_check_80 rfl ?_
      refine E_imul dX12_check_82 ?_
      rw [dbl hx5]
      refine E_iload_n dX12_check_83 rfl ?_
      refine E_icmp_ge dX12_check_84 (fun c => absurd c (nI_ge (by omega) (by omega))) (fun _ => ?_)
      refine E_iload dX12_check_87 rfl ?_
      refine E_ic (v := 2) dX12_check_89 (by decide) ?_
      refine E_iload dX12_check_90 rfl ?_
      refine E_imul dX12_check_92 ?_
      rw [dbl hx5]
      refine E_icmp_ne dX12_check_93 (fun c => absurd (by rw [hr]) c) (fun _ => ?_)
      refine E_aload_n dX12_check_96 rfl ?_
      refine E_V0v vX12_165_12 dX12_check_97 (Nat.le_of_ble_eq_true rfl) (by decide) (sh_159 _) (s_X12_minute hv iv (fun S97 h97 f97 => ?_))
      have ht97 : ∀ q, q < many → S97 182 q = t q := fun q hq => by rw [f97 182 (by decide) (by decide) (by decide)]; exact ht q hq
      have hA97 : ∀ j, j < 1468 → S97 162 j = v j := fun j hj => by rw [f97 162 (by decide) (by decide) (by decide)]; exact hA j hj
      have hH97 : ∀ j, 1468 ≤ j → miV u j = v j := fun j hj => by rw [mi_un iv (Or.inr (Or.inr (by omega)))]; exact hH j hj
      refine E_iload dX12_check_100 rfl ?_
      refine E_iload dX12_check_102 rfl ?_
      refine E_iload_n dX12_check_104 rfl ?_
      refine E_icmp_ge dX12_check_105 (fun c => absurd c (nI_ge (by omega) (by omega))) (fun _ => ?_)
      refine E_aload_n dX12_check_108 rfl ?_
      refine L_get fX12_78 dX12_check_109 (by decide) sh_159 rfl ?_
      refine E_iload dX12_check_112 rfl ?_
      refine L_iald (j := r) dX12_check_114 (by decide) sh_182 rfl (by omega) (by decide) ?_
      rw [ht97 r hlt]
      refine E_aload_n dX12_check_115 rfl ?_
      refine L_get fX12_9 dX12_check_116 (by decide) sh_159 rfl ?_
      refine E_bipush (v := 10) dX12_check_119 (by decide) ?_
      refine N_iald (j := 10) dX12_check_121 rfl (by decide) h97 ?_
      refine E_icmp_ne dX12_check_122 (fun c => absurd heq c) (fun _ => ?_)
      refine E_ic (v := 1) dX12_check_125 (by decide) ?_
      refine E_goto dX12_check_126 ?_
      refine E_iadd dX12_check_130 ?_
      rw [nI_1]
      refine E_istore dX12_check_131 (by decide) ?_
      refine E_iload dX12_check_133 rfl ?_
      refine E_iload dX12_check_135 rfl ?_
      refine E_ic (v := 2) dX12_check_137 (by decide) ?_
      refine E_iload dX12_check_138 rfl ?_
      refine E_imul dX12_check_140 ?_
      rw [dbl hx5]
      refine E_ic (v := 1) dX12_check_141 (by decide) ?_
      refine E_iadd dX12_check_142 ?_
      rw [nI_1]
      refine E_icmp_ne dX12_check_143 (fun c => absurd (by rw [hr]) c) (fun _ => ?_)
      refine E_iload dX12_check_146 rfl ?_
      refine E_iload_n dX12_check_148 rfl ?_
      refine E_icmp_ge dX12_check_149 (fun c => absurd c (nI_ge (by omega) (by omega))) (fun _ => ?_)
      refine E_aload_n dX12_check_152 rfl ?_
      refine L_get fX12_78 dX12_check_153 (by decide) sh_159 rfl ?_
      refine E_iload dX12_check_156 rfl ?_
      refine L_iald (j := r + 1) dX12_check_158 (by decide) sh_182 rfl (by omega) (by decide) ?_
      rw [ht97 (r + 1) hlt2]
      refine E_aload_n dX12_check_159 rfl ?_
      refine E_V0i vX12_174_12 dX12_check_160 (Nat.le_of_ble_eq_true rfl) (by decide) (sh_159 _) (s_X12_tempers h97 hm' hm9 ?_)
      refine E_icmp_ne dX12_check_163 (fun _ => ?_) (fun c => absurd c heq2)
      refine E_ic (v := 0) dX12_check_170 (by decide) ?_
      refine E_iadd dX12_check_171 ?_
      rw [ad0]
      refine E_istore dX12_check_172 (by decide) ?_
      refine E_iinc (v := 1) dX12_check_174 rfl (by decide) (by decide) ?_
      refine E_goto dX12_check_177 ?_
      have hx5b : x5 + 1 = nI (k + 1) := by rw [hx5, nI_1]
      refine E_ic (v := 2) dX12_check_79 (by decide) ?_
      refine E_iload dX12_check_80 rfl ?_
      refine E_imul dX12_check_82 ?_
      rw [dbl hx5b]
      refine E_iload_n dX12_check_83 rfl ?_
      refine E_icmp_ge dX12_check_84 (fun c84 => ?_) (fun c84 => ?_)
      · rw [ck_two g1 g2] at hq
        exact E.loc (by exact ⟨rfl, rfl, rfl, rfl, rfl, rfl, trivial⟩) (l_X12_check180 (r := r + 1) hg h60 (by omega) h97 hA97 hH97 (fun S9 a9 b9 => by rw [if_neg (fun z => absurd z.2 (by omega)), show 1 + (r + 1) = 2 + r by omega]; exact hq S9 a9 (f97.mc.tr b9)))
      · refine E_iload dX12_check_87 rfl ?_
        refine E_ic (v := 2) dX12_check_89 (by decide) ?_
        refine E_iload dX12_check_90 rfl ?_
        refine E_imul dX12_check_92 ?_
        rw [dbl hx5b]
        refine E_icmp_ne dX12_check_93 (fun _ => ?_) (fun c => absurd c (fun e => absurd (nI_inj (by omega) (by omega) e) (by omega)))
        rw [ck_two g1 g2] at hq
        exact E.loc (by exact ⟨rfl, rfl, rfl, rfl, rfl, rfl, trivial⟩) (l_X12_check180 (r := r + 1) hg h60 (by omega) h97 hA97 hH97 (fun S9 a9 b9 => by rw [if_neg (fun z => absurd z.2 (by omega)), show 1 + (r + 1) = 2 + r by omega]; exact hq S9 a9 (f97.mc.tr b9)))
    have g2 : r + 1 < many ∧ t (r + 1) = teF (miV u) (mN (miV u)) := ⟨hlt2, heq2⟩
    refine E_ic (v := 2) dX12_check_79 (by decide) ?_
    refine E_iload dX12_check_80 rfl ?_
    refine E_imul dX12_check_82 ?_
    rw [dbl hx5]
    refine E_iload_n dX12_check_83 rfl ?_
    refine E_icmp_ge dX12_check_84 (fun c => absurd c (nI_ge (by omega) (by omega))) (fun _ => ?_)
    refine E_iload dX12_check_87 rfl ?_
    refine E_ic (v := 2) dX12_check_89 (by decide) ?_
    refine E_iload dX12_check_90 rfl ?_
    refine E_imul dX12_check_92 ?_
    rw [dbl hx5]
    refine E_icmp_ne dX12_check_93 (fun c => absurd (by rw [hr]) c) (fun _ => ?_)
    refine E_aload_n dX12_check_96 rfl ?_
    refine E_V0v vX12_165_12 dX12_check_97 (Nat.le_of_ble_eq_true rfl) (by decide) (sh_159 _) (s_X12_minute hv iv (fun S97 h97 f97 => ?_))
    have ht97 : ∀ q, q < many → S97 182 q = t q := fun q hq => by rw [f97 182 (by decide) (by decide) (by decide)]; exact ht q hq
    have hA97 : ∀ j, j < 1468 → S97 162 j = v j := fun j hj => by rw [f97 162 (by decide) (by decide) (by decide)]; exact hA j hj
    have hH97 : ∀ j, 1468 ≤ j → miV u j = v j := fun j hj => by rw [mi_un iv (Or.inr (Or.inr (by omega)))]; exact hH j hj
    refine E_iload dX12_check_100 rfl ?_
    refine E_iload dX12_check_102 rfl ?_
    refine E_iload_n dX12_check_104 rfl ?_
    refine E_icmp_ge dX12_check_105 (fun c => absurd c (nI_ge (by omega) (by omega))) (fun _ => ?_)
    refine E_aload_n dX12_check_108 rfl ?_
    refine L_get fX12_78 dX12_check_109 (by decide) sh_159 rfl ?_
    refine E_iload dX12_check_112 rfl ?_
    refine L_iald (j := r) dX12_check_114 (by decide) sh_182 rfl (by omega) (by decide) ?_
    rw [ht97 r hlt]
    refine E_aload_n dX12_check_115 rfl ?_
    refine L_get fX12_9 dX12_check_116 (by decide) sh_159 rfl ?_
    refine E_bipush (v := 10) dX12_check_119 (by decide) ?_
    refine N_iald (j := 10) dX12_check_121 rfl (by decide) h97 ?_
    refine E_icmp_ne dX12_check_122 (fun c => absurd heq c) (fun _ => ?_)
    refine E_ic (v := 1) dX12_check_125 (by decide) ?_
    refine E_goto dX12_check_126 ?_
    refine E_iadd dX12_check_130 ?_
    rw [nI_1]
    refine E_istore dX12_check_131 (by decide) ?_
    refine E_iload dX12_check_133 rfl ?_
    refine E_iload dX12_check_135 rfl ?_
    refine E_ic (v := 2) dX12_check_137 (by decide) ?_
    refine E_iload dX12_check_138 rfl ?_
    refine E_imul dX12_check_140 ?_
    rw [dbl hx5]
    refine E_ic (v := 1) dX12_check_141 (by decide) ?_
    refine E_iadd dX12_check_142 ?_
    rw [nI_1]
    refine E_icmp_ne dX12_check_143 (fun c => absurd (by rw [hr]) c) (fun _ => ?_)
    refine E_iload dX12_check_146 rfl ?_
    refine E_iload_n dX12_check_148 rfl ?_
    refine E_icmp_ge dX12_check_149 (fun c => absurd c (nI_ge (by omega) (by omega))) (fun _ => ?_)
    refine E_aload_n dX12_check_152 rfl ?_
    refine L_get fX12_78 dX12_check_153 (by decide) sh_159 rfl ?_
    refine E_iload dX12_check_156 rfl ?_
    refine L_iald (j := r + 1) dX12_check_158 (by decide) sh_182 rfl (by omega) (by decide) ?_
    rw [ht97 (r + 1) hlt2]
    refine E_aload_n dX12_check_159 rfl ?_
    refine E_V0i vX12_174_12 dX12_check_160 (Nat.le_of_ble_eq_true rfl) (by decide) (sh_159 _) (s_X12_tempers h97 hm' hm9 ?_)
    refine E_icmp_ne dX12_check_163 (fun c => absurd heq2 c) (fun _ => ?_)
    refine E_ic (v := 1) dX12_check_166 (by decide) ?_
    refine E_goto dX12_check_167 ?_
    refine E_iadd dX12_check_171 ?_
    rw [nI_1]
    refine E_istore dX12_check_172 (by decide) ?_
    refine E_iinc (v := 1) dX12_check_174 rfl (by decide) (by decide) ?_
    refine E_goto dX12_check_177 ?_
    have hx5b : x5 + 1 = nI (k + 1) := by rw [hx5, nI_1]
    rw [ck_go g1 g2] at hq
    exact E.loc (by exact ⟨rfl, rfl, rfl, rfl, rfl, rfl, trivial⟩) (ih (miV u) S97 _ _ (k + 1) (r + 2) hx5b rfl (by omega) (by omega) h97 (IV_mi iv) hm' ht97 hA97 hH97 (fun S9 a9 b9 => hq S9 a9 (f97.mc.tr b9)))
def CKM (S S' : SS) : Prop := S' 159 = upd (S 159) 34 0 ∧ ∀ k, k ≠ 159 → k ≠ 160 → k ≠ 162 → k ≠ 172 → k ≠ 173 → S' k = S k
theorem CKM.b {S : SS} : CKM S (wr S 159 34 0) := ⟨wr_at, fun _ h _ _ _ _ => wr_ne h⟩
theorem CKM.w {S S' : SS} (h : MC (wr S 159 34 0) S') : CKM S S' := ⟨(h 159 (by decide) (by decide) (by decide) (by decide)).trans wr_at, fun k a b c e f => (h k b c e f).trans (wr_ne a)⟩
theorem s_X12_check {Q : Int32 → HP → Prop} (hv : S 160 = v) (h0 : hi0 v) {u : WV} (hhas : S 159 3 = 0 ∨ S 159 3 = 1 ∧ S 161 = u ∧ hi0 u ∧ IV u ∧ ∃ k, k ≤ 9999 ∧ u 2 = nI k) {many : Nat} (hmany : S 159 34 = nI many) (h60 : many ≤ 60) {t : Nat → Int32} (ht : ∀ q, q < many → S 182 q = t q) {x : Int32} (hq : ∀ S', S' 160 = v → CKM S S' → Q (checkR (S 159 3) u t many x) (lay Θ S')) : C Θ (d + 5) 0 0 yX12_check cX12_check 6 (some .int) [.ref (tb Θ + 159), .int x] 183 (lay Θ S) (Qi Q) := by
  refine C_of rfl rfl (Nat.le_of_ble_eq_true rfl) ?_
  rcases hhas with h4 | ⟨h4, hu, h1, iv, k, hk, h2⟩
  · refine E_aload_n dX12_check_0 rfl ?_
    refine L_get fX12_281 dX12_check_1 (by decide) sh_159 rfl ?_
    rw [hmany]
    refine E_istore_n dX12_check_4 (by decide) ?_
    refine E_aload_n dX12_check_5 rfl ?_
    refine E_ic (v := 0) dX12_check_6 (by decide) ?_
    refine L_puti fX12_281 dX12_check_7 (by decide) sh_159 (Nat.le_of_ble_eq_true rfl) rfl ?_
    refine E_iload_n dX12_check_10 rfl ?_
    refine E_ic (v := 1) dX12_check_11 (by decide) ?_
    refine E_bipush (v := 30) dX12_check_12 (by decide) ?_
    refine E_S3i sX12_81 dX12_check_14 (Nat.le_of_ble_eq_true rfl) (s_X12_in (fun g1a g1b => ?_) (fun g1 => ?_))
    · refine E_if_ne dX12_check_17 (fun _ => ?_) (fun c => absurd c (by decide))
      refine E_aload_n dX12_check_23 rfl ?_
      refine L_get fX12_284 dX12_check_24 (by decide) sh_159 rfl ?_
      refine E_if_ne dX12_check_27 (fun c => absurd (by rw [wr_at, pk_un (by decide)]; exact h4) c) (fun _ => ?_)
      refine E_ldc dX12_check_30 kX12_130 ?_
      refine E_iret dX12_check_32 rfl rfl ?_
      rw [checkR, if_pos ⟨g1a, g1b⟩, if_pos h4] at hq
      exact hq _ (by rw [wr_ne (by decide)]; exact hv) CKM.b
    · refine E_if_ne dX12_check_17 (fun c => absurd rfl c) (fun _ => ?_)
      refine E_ldc dX12_check_20 kX12_107 ?_
      refine E_iret dX12_check_22 rfl rfl ?_
      rw [checkR, if_neg g1] at hq
      exact hq _ (by rw [wr_ne (by decide)]; exact hv) CKM.b
  · refine E_aload_n dX12_check_0 rfl ?_
    refine L_get fX12_281 dX12_check_1 (by decide) sh_159 rfl ?_
    rw [hmany]
    refine E_istore_n dX12_check_4 (by decide) ?_
    refine E_aload_n dX12_check_5 rfl ?_
    refine E_ic (v := 0) dX12_check_6 (by decide) ?_
    refine L_puti fX12_281 dX12_check_7 (by decide) sh_159 (Nat.le_of_ble_eq_true rfl) rfl ?_
    refine E_iload_n dX12_check_10 rfl ?_
    refine E_ic (v := 1) dX12_check_11 (by decide) ?_
    refine E_bipush (v := 30) dX12_check_12 (by decide) ?_
    refine E_S3i sX12_81 dX12_check_14 (Nat.le_of_ble_eq_true rfl) (s_X12_in (fun g1a g1b => ?_) (fun g1 => ?_))
    · refine E_if_ne dX12_check_17 (fun _ => ?_) (fun c => absurd c (by decide))
      refine E_aload_n dX12_check_23 rfl ?_
      refine L_get fX12_284 dX12_check_24 (by decide) sh_159 rfl ?_
      refine E_if_ne dX12_check_27 (fun _ => ?_) (fun c => absurd c (by rw [wr_at, pk_un (by decide), h4]; decide))
      refine E_aload_n dX12_check_33 rfl ?_
      refine L_get fX12_9 dX12_check_34 (by decide) sh_159 rfl ?_
      refine E_aload_n dX12_check_37 rfl ?_
      refine L_get fX12_16 dX12_check_38 (by decide) sh_159 rfl ?_
      refine E_S2v sX12_177 dX12_check_41 (Nat.le_of_ble_eq_true rfl) (s_X12_copyAll (a := 160) (b := 162) (by decide) sh_160 (by decide) sh_162 (by decide) (fun S41 a41 b41 c41 => ?_))
      refine E_aload_n dX12_check_44 rfl ?_
      refine L_get fX12_13 dX12_check_45 (by decide) sh_159 rfl ?_
      refine E_aload_n dX12_check_48 rfl ?_
      refine L_get fX12_9 dX12_check_49 (by decide) sh_159 rfl ?_
      refine E_S2v sX12_177 dX12_check_52 (Nat.le_of_ble_eq_true rfl) (s_X12_copyAll (a := 161) (b := 160) (by decide) sh_161 (by decide) sh_160 (by decide) (fun S52 a52 b52 c52 => ?_))
      obtain ⟨n, hn, en⟩ := isIx_le (n := 30) (by decide) (Int32.le_trans (by decide) g1a) g1b
      obtain ⟨m, hm9, hm, hpa⟩ := iv.1
      have e52 : S52 160 = u := by
        funext j
        rcases Nat.lt_or_ge j 1468 with h | h
        · rw [a52 j h, c41 161 (by decide), wr_ne (by decide), hu]
        · rw [b52 j h, c41 160 (by decide), wr_ne (by decide), hv, h0 j h, h1 j h]
      have ec : clampF (9999 - u 2) 0 x = nI (min (9999 - k) n) := by rw [h2, en]; exact cl_min hk (by omega)
      rw [checkR, if_pos ⟨g1a, g1b⟩, if_neg (by rw [h4]; decide), en, nI_clamp (by omega), h2, nI_clamp (by omega)] at hq
      refine E_ic (v := 2) dX12_check_55 (by decide) ?_
      refine E_sipush (v := 9999) dX12_check_56 (by decide) ?_
      refine E_aload_n dX12_check_59 rfl ?_
      refine L_get fX12_9 dX12_check_60 (by decide) sh_159 rfl ?_
      refine E_ic (v := 2) dX12_check_63 (by decide) ?_
      refine L_iald (j := 2) dX12_check_64 (by decide) sh_160 rfl (by decide) (by decide) ?_
      rw [e52]
      refine E_isub dX12_check_65 ?_
      refine E_ic (v := 0) dX12_check_66 (by decide) ?_
      refine E_iload_n dX12_check_67 rfl ?_
      refine E_S3i sX12_100 dX12_check_68 (Nat.le_of_ble_eq_true rfl) (s_X12_within ?_)
      rw [ec]
      refine E_imul dX12_check_71 ?_
      rw [show (2 : Int32) * nI (min (9999 - k) n) = nI (2 * min (9999 - k) n) from pk_mul 2 _]
      refine E_istore_n dX12_check_72 (by decide) ?_
      refine E_ic (v := 0) dX12_check_73 (by decide) ?_
      refine E_istore dX12_check_74 (by decide) ?_
      refine E_ic (v := 0) dX12_check_76 (by decide) ?_
      refine E_istore dX12_check_77 (by decide) ?_
      exact E.loc (by exact ⟨rfl, rfl, rfl, rfl, rfl, rfl, trivial⟩) (l_X12_check79 (g := min (9999 - k) n) (by omega) h60 hm9 (min (9999 - k) n) u S52 0 0 0 0 rfl rfl (by omega) (by omega) e52 iv hm (fun q hq => by rw [c52 182 (by decide), c41 182 (by decide), wr_ne (by decide)]; exact ht q hq) (fun j hj => by rw [c52 162 (by decide), a41 j hj, wr_ne (by decide), hv]) (fun j hj => by rw [h0 j hj, h1 j hj]) (fun S9 a9 b9 => hq S9 a9 (CKM.w ((show MC _ _ from fun j a b _ _ => (c52 j a).trans (c41 j b)).tr b9))))
    · refine E_if_ne dX12_check_17 (fun c => absurd rfl c) (fun _ => ?_)
      refine E_ldc dX12_check_20 kX12_107 ?_
      refine E_iret dX12_check_22 rfl rfl ?_
      rw [checkR, if_neg g1] at hq
      exact hq _ (by rw [wr_ne (by decide)]; exact hv) CKM.b
end Ch
