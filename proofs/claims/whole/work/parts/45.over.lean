/-! over and settles, on both sides -/
def ovS (v : WV) (p o j : Nat) : WV := goV (upd (upd v 5 0) 9 (nI j)) p o
def ovR (u : WV) : Nat → Nat → Nat
  | 0, _ => 41
  | f + 1, n => if u 6 = 0 then (if u 5 = 1 then n else 41) else ovR (miV u) f (n + 1)
def ovN (v : WV) (p o j : Nat) : Nat := ovR (ovS v p o j) 41 0
def ovI (r : Nat) : Int32 := if r = 41 then nobody else nI r
theorem ovR_le : ∀ f u n, n + f = 41 → ovR u f n ≤ 41
  | 0, _, _, _ => Nat.le_refl _
  | f + 1, u, n, h => by
    rw [ovR]
    split
    · split <;> omega
    · exact ovR_le f _ _ (by omega)
theorem ovN_le {v : WV} {p o j : Nat} : ovN v p o j ≤ 41 := ovR_le 41 _ 0 (by omega)
theorem go_un {v : WV} {p o k : Nat} (h6 : k ≠ 6) (h7 : k ≠ 7) (h8 : k ≠ 8) (hp : k ≠ 16 + 9 * p) (ho : k ≠ 16 + 9 * o) : goV v p o k = v k := by
  rw [goV, pk_un h6, pk_un h8, pk_un h7, pk_un ho, pk_un hp]
theorem go_6 {v : WV} {p o : Nat} : goV v p o 6 = 1 := pk_us
theorem go_8 {v : WV} {p o : Nat} : goV v p o 8 = (if nI p < nI o then nI o else nI p) := by rw [goV, pk_un (by omega), pk_us]
theorem go_7 {v : WV} {p o : Nat} : goV v p o 7 = (if nI p < nI o then nI p else nI o) := by rw [goV, pk_un (by omega), pk_un (by omega), pk_us]
theorem go_p {v : WV} {p o : Nat} : goV v p o (16 + 9 * p) = 2 := by
  rw [goV, pk_un (by omega), pk_un (by omega), pk_un (by omega)]
  by_cases e : p = o
  · rw [e, pk_us]
  · rw [pk_un (by omega), pk_us]
theorem go_o {v : WV} {p o : Nat} : goV v p o (16 + 9 * o) = 2 := by
  rw [goV, pk_un (by omega), pk_un (by omega), pk_un (by omega), pk_us]
theorem gc_eq {v : WV} {p o : Nat} {z : Int32} (hpo : p < o) (ho : o < 9) : goCl v p o z = goV (upd v 9 z) p o := by
  funext k
  rw [goCl]
  by_cases a6 : k = 6
  · rw [a6, go_6, pk_un (by omega), pk_un (by omega), pk_us]
  · by_cases a7 : k = 7
    · rw [a7, go_7, if_pos (nI_lt hpo (by omega)), pk_un (by omega), pk_un (by omega), pk_un (by omega), pk_un (by omega), pk_un (by omega), pk_us]
    · by_cases a8 : k = 8
      · rw [a8, go_8, if_pos (nI_lt hpo (by omega)), pk_un (by omega), pk_un (by omega), pk_un (by omega), pk_un (by omega), pk_us]
      · by_cases ap : k = 16 + 9 * p
        · rw [ap, go_p, pk_un (by omega), show 15 + 9 * p + 1 = 16 + 9 * p by omega, pk_us]
        · by_cases ao : k = 16 + 9 * o
          · rw [ao, go_o, show 15 + 9 * o + 1 = 16 + 9 * o by omega, pk_us]
          · rw [go_un a6 a7 a8 ap ao, pk_un (by omega), pk_un (by omega), pk_un a6]
            by_cases a9 : k = 9
            · rw [a9, pk_us, pk_us]
            · rw [pk_un a9, pk_un a8, pk_un a7, pk_un a9]
theorem go_sym {v : WV} {p o : Nat} (hp : p < 9) (ho : o < 9) (h : p ≠ o) : goV v p o = goV v o p := by
  funext k
  by_cases a6 : k = 6
  · rw [a6, go_6, go_6]
  · by_cases ap : k = 16 + 9 * p
    · rw [ap, go_p, go_o]
    · by_cases ao : k = 16 + 9 * o
      · rw [ao, go_o, go_p]
      · by_cases a7 : k = 7
        · rw [a7, go_7, go_7]
          rcases Nat.lt_or_ge p o with g | g
          · rw [if_pos (nI_lt g (by omega)), if_neg (nI_nlt (by omega) (by omega))]
          · rw [if_neg (nI_nlt g (by omega)), if_pos (nI_lt (by omega) (by omega))]
        · by_cases a8 : k = 8
          · rw [a8, go_8, go_8]
            rcases Nat.lt_or_ge p o with g | g
            · rw [if_pos (nI_lt g (by omega)), if_neg (nI_nlt (by omega) (by omega))]
            · rw [if_neg (nI_nlt g (by omega)), if_pos (nI_lt (by omega) (by omega))]
          · rw [go_un a6 a7 a8 ap ao, go_un a6 a7 a8 ao ap]
theorem ov_cl {v : WV} {p o j : Nat} (hp : p < 9) (ho : o < 9) (h : p ≠ o) : goCl (upd v 5 0) (min p o) (max p o) (nI j) = ovS v p o j := by
  rw [ovS]
  rcases Nat.lt_or_ge p o with g | g
  · rw [Nat.min_eq_left (by omega), Nat.max_eq_right (by omega), gc_eq g ho]
  · rw [Nat.min_eq_right (by omega), Nat.max_eq_left (by omega), gc_eq (by omega) hp, go_sym hp ho h]
theorem ov_un {v : WV} {p o j k : Nat} (h5 : k ≠ 5) (h9 : k ≠ 9) (h6 : k ≠ 6) (h7 : k ≠ 7) (h8 : k ≠ 8) (hp : k ≠ 16 + 9 * p) (ho : k ≠ 16 + 9 * o) : ovS v p o j k = v k := by
  rw [ovS, go_un h6 h7 h8 hp ho, pk_un h9, pk_un h5]
theorem ov_5 {v : WV} {p o j : Nat} : ovS v p o j 5 = 0 := by
  rw [ovS, go_un (by omega) (by omega) (by omega) (by omega) (by omega), pk_un (by omega), pk_us]
theorem ov_9 {v : WV} {p o j : Nat} : ovS v p o j 9 = nI j := by
  rw [ovS, go_un (by omega) (by omega) (by omega) (by omega) (by omega), pk_us]
theorem IV.ov {v : WV} {m p o j : Nat} (iv : IV v) (hmm : mN v = m) (hp : p < m) (ho : o < m) (hne : p ≠ o) (hj : j < 6) : IV (ovS v p o j) := by
  obtain ⟨hI, -⟩ := iv.m hmm
  have hm9 := hI.1.1
  refine IV_iff.mpr ⟨m, ((hI.boat (b := 0) (by omega)).low (j := 9) (by omega) (by omega) (by omega) (by omega) (by omega) (by omega)).go hp ho, 1, by omega, show ovS v p o j 6 = nI 1 from go_6, fun _ => ⟨min p o, max p o, j, by omega, by omega, hj, ?_, ?_, ov_9⟩⟩
  · rw [ovS, go_7]
    rcases Nat.lt_or_ge p o with g | g
    · rw [if_pos (nI_lt g (by omega)), Nat.min_eq_left (by omega)]
    · rw [if_neg (nI_nlt g (by omega)), Nat.min_eq_right (by omega)]
  · rw [ovS, go_8]
    rcases Nat.lt_or_ge p o with g | g
    · rw [if_pos (nI_lt g (by omega)), Nat.max_eq_right (by omega)]
    · rw [if_neg (nI_nlt g (by omega)), Nat.max_eq_left (by omega)]
theorem to_5 {v : WV} {p o : Nat} {b : Int32} : toV v p o b 5 = b := by rw [toV, pk_un (by omega), pk_us]
theorem to_6 {v : WV} {p o : Nat} {b : Int32} : toV v p o b 6 = 0 := pk_us
theorem to_10 {v : WV} {p o : Nat} {b : Int32} : toV v p o b 10 = v 10 := by rw [toV, pk_un (by omega), pk_un (by omega), pk_un (by omega), pk_un (by omega)]
theorem mi_cross {u : WV} (h5 : u 5 = 0) (h6 : ¬ u 6 = 0) : (miV u 10 = u 10 + 2 ∧ miV u 6 = 0 ∧ miV u 5 = 1) ∨ (miV u 10 = u 10 ∧ miV u 5 = 0) := by
  unfold miV
  rw [if_neg h6]
  try simp only
  rw [pk_un (by omega), pk_un (by omega), pk_un (by omega), quV]
  generalize (u 7).toNatClampNeg = p
  generalize (u 8).toNatClampNeg = o
  generalize (u 9).toNatClampNeg = j
  have e5 : q3V u p o j 5 = 0 := (q3_un (by omega) (by omega) (by omega)).trans h5
  have e10 : q3V u p o j 10 = u 10 := q3_un (by omega) (by omega) (by omega)
  rw [← e10]
  generalize q3V u p o j = w at e5
  rw [quE]
  by_cases c1 : w 4 ≤ tmF w p + tmF w o
  · rw [if_pos c1]
    right
    exact ⟨by rw [to_10, pk_un (by omega), pk_un (by omega), pk_un (by omega)], by rw [to_5, e5]⟩
  · rw [if_neg c1]
    by_cases c2 : 30 ≤ w 6
    · rw [if_pos c2]
      left
      exact ⟨by rw [to_10, pk_us], to_6, by rw [to_5, e5]; rfl⟩
    · rw [if_neg c2]
      by_cases c3 : w 6 ≤ 0
      · rw [if_pos c3]
        right
        exact ⟨by rw [to_10, pk_un (by omega)], by rw [to_5, e5]⟩
      · rw [if_neg c3]
        right
        by_cases c4 : apV (q4V w p o j) p o j = 0
        · rw [if_pos c4]
          exact ⟨by rw [pk_un (by omega), drawV, pk_un (by omega), q4V, pk_un (by omega), pk_un (by omega)], by rw [pk_un (by omega), drawV, pk_un (by omega), q4V, pk_un (by omega), pk_un (by omega)]; exact e5⟩
        · rw [if_neg c4]
          exact ⟨by rw [q4V, pk_un (by omega), pk_un (by omega)], by rw [q4V, pk_un (by omega), pk_un (by omega)]; exact e5⟩
theorem way_le {u : WV} (iv : IV u) : u 6 ≤ 0 ↔ u 6 = 0 := by
  obtain ⟨w, hw, e, -⟩ := iv.2.2.1
  rw [e]
  constructor
  · intro h
    rw [show w = 0 from Nat.le_zero.mp ((nI_leI (b := 0) (by omega) (by omega)).mp h)]
    rfl
  · intro h
    rw [h]
    exact Int32.le_refl 0
def soF (v : WV) (p o : Nat) : Nat → Int32 × Nat
  | 0 => (nobody, 41)
  | i + 1 => if ovN v p o i < (soF v p o i).2 then (nI i, ovN v p o i) else soF v p o i
theorem so_le {v : WV} {p o : Nat} (i : Nat) : (soF v p o i).2 ≤ 41 := by
  induction i with
  | zero => exact Nat.le_refl _
  | succ i ih =>
    have l := ovN_le (v := v) (p := p) (o := o) (j := i)
    rw [soF]
    generalize ovN v p o i = a at l ⊢
    by_cases h : a < (soF v p o i).2
    · rw [if_pos h]
      exact l
    · rw [if_neg h]
      exact ih
theorem so_new {v : WV} {p o i : Nat} (h : ovN v p o i < (soF v p o i).2) : soF v p o (i + 1) = (nI i, ovN v p o i) := by rw [soF, if_pos h]
theorem so_keep {v : WV} {p o i : Nat} (h : ¬ ovN v p o i < (soF v p o i).2) : soF v p o (i + 1) = soF v p o i := by rw [soF, if_neg h]
def overR (v : WV) (x y z : Int32) : Int32 := (ix x (mN v)).elim bad fun p => (ix y (mN v)).elim bad fun o => if x = y then bad else (ix z 6).elim bad fun j => ovI (ovN v p o j)
def soR (v : WV) (p o : Nat) (z : Int32) : Int32 := if (soF v p o 6).1 = nobody ∨ z = 0 then (soF v p o 6).1 else nI (soF v p o 6).2
def settlesR (v : WV) (x y z : Int32) : Int32 := (ix x (mN v)).elim bad fun p => (ix y (mN v)).elim bad fun o => if x = y then bad else if 0 ≤ z ∧ z ≤ 1 then soR v p o z else bad
section Ov
variable {Θ : Th} {d : Nat} {S : SS} {v : WV}
theorem l_X12_overIn {Q : Int32 → HP → Prop} {a1 a2 a3 : Int32} : ∀ (f : Nat) (u : WV) (S : SS) (x4 : Int32) (n : Nat), x4 = nI n → n + f = 41 → S 160 = u → IV u → (∀ k, k < 1468 → S 163 k = v k) → (∀ k, 1468 ≤ k → u k = v k) → (∀ S', S' 160 = v → MH S S' → Q (nI (ovR u f n)) (lay Θ S')) → E Θ (d + 5) 0 0 yX12_overIn cX12_overIn 6 (some .int) 0 0 183 (lay Θ S) 28 [(4, .int x4), (3, .int a3), (2, .int a2), (1, .int a1), (0, .ref (tb Θ + 159))] [] (Qi Q) := by
  intro f
  induction f with
  | zero =>
    intro u S x4 n hx4 hi hv iv hB hH hq
    rw [show ovR u 0 n = 41 from rfl] at hq
    refine E_iload dX12_overIn_28 rfl ?_
    refine E_bipush (v := 40) dX12_overIn_30 (by decide) ?_
    refine E_icmp_gt dX12_overIn_32 (fun _ => ?_) (fun c => absurd (by rw [hx4]; exact nI_lt (a := 40) (by omega) (by omega)) c)
    refine E_aload_n dX12_overIn_55 rfl ?_
    refine L_get fX12_9 dX12_overIn_56 (by decide) sh_159 rfl ?_
    refine E_bipush (v := 6) dX12_overIn_59 (by decide) ?_
    refine N_iald (j := 6) dX12_overIn_61 rfl (by decide) hv ?_
    refine E_if_ne dX12_overIn_62 (fun c62 => ?_) (fun c62 => ?_)
    · refine E_ic (v := 0) dX12_overIn_79 (by decide) ?_
      refine E_istore dX12_overIn_80 (by decide) ?_
      refine E_aload_n dX12_overIn_82 rfl ?_
      refine E_V0v vX12_184_12 dX12_overIn_83 (Nat.le_of_ble_eq_true rfl) (by decide) (sh_159 _) (s_X12_putsBack hB (fun k hk => by rw [hv]; exact hH k hk) (fun S83 h83 f83 => ?_))
      refine E_iload dX12_overIn_86 rfl ?_
      refine E_if_eq dX12_overIn_88 (fun _ => ?_) (fun c => absurd (by decide) c)
      refine E_bipush (v := 41) dX12_overIn_96 (by decide) ?_
      refine E_iret dX12_overIn_98 rfl rfl ?_
      exact hq S83 h83 f83.mh
    · refine E_aload_n dX12_overIn_65 rfl ?_
      refine L_get fX12_9 dX12_overIn_66 (by decide) sh_159 rfl ?_
      refine E_ic (v := 5) dX12_overIn_69 (by decide) ?_
      refine N_iald (j := 5) dX12_overIn_70 rfl (by decide) hv ?_
      refine E_ic (v := 1) dX12_overIn_71 (by decide) ?_
      refine E_icmp_ne dX12_overIn_72 (fun c72 => ?_) (fun c72 => ?_)
      · refine E_ic (v := 0) dX12_overIn_79 (by decide) ?_
        refine E_istore dX12_overIn_80 (by decide) ?_
        refine E_aload_n dX12_overIn_82 rfl ?_
        refine E_V0v vX12_184_12 dX12_overIn_83 (Nat.le_of_ble_eq_true rfl) (by decide) (sh_159 _) (s_X12_putsBack hB (fun k hk => by rw [hv]; exact hH k hk) (fun S83 h83 f83 => ?_))
        refine E_iload dX12_overIn_86 rfl ?_
        refine E_if_eq dX12_overIn_88 (fun _ => ?_) (fun c => absurd (by decide) c)
        refine E_bipush (v := 41) dX12_overIn_96 (by decide) ?_
        refine E_iret dX12_overIn_98 rfl rfl ?_
        exact hq S83 h83 f83.mh
      · refine E_ic (v := 1) dX12_overIn_75 (by decide) ?_
        refine E_goto dX12_overIn_76 ?_
        refine E_istore dX12_overIn_80 (by decide) ?_
        refine E_aload_n dX12_overIn_82 rfl ?_
        refine E_V0v vX12_184_12 dX12_overIn_83 (Nat.le_of_ble_eq_true rfl) (by decide) (sh_159 _) (s_X12_putsBack hB (fun k hk => by rw [hv]; exact hH k hk) (fun S83 h83 f83 => ?_))
        refine E_iload dX12_overIn_86 rfl ?_
        refine E_if_eq dX12_overIn_88 (fun c => absurd c (by decide)) (fun _ => ?_)
        refine E_iload dX12_overIn_91 rfl ?_
        refine E_goto dX12_overIn_93 ?_
        refine E_iret dX12_overIn_98 rfl rfl ?_
        have e41 : n = 41 := by omega
        rw [hx4, e41]
        exact hq S83 h83 f83.mh
  | succ f ih =>
    intro u S x4 n hx4 hi hv iv hB hH hq
    refine E_iload dX12_overIn_28 rfl ?_
    refine E_bipush (v := 40) dX12_overIn_30 (by decide) ?_
    refine E_icmp_gt dX12_overIn_32 (fun c => absurd c (by rw [hx4]; exact i_lt (nI_le (b := 40) (by omega) (by omega)))) (fun _ => ?_)
    refine E_aload_n dX12_overIn_35 rfl ?_
    refine L_get fX12_9 dX12_overIn_36 (by decide) sh_159 rfl ?_
    refine E_bipush (v := 6) dX12_overIn_39 (by decide) ?_
    refine N_iald (j := 6) dX12_overIn_41 rfl (by decide) hv ?_
    refine E_if_le dX12_overIn_42 (fun c42 => ?_) (fun c42 => ?_)
    · refine E_aload_n dX12_overIn_55 rfl ?_
      refine L_get fX12_9 dX12_overIn_56 (by decide) sh_159 rfl ?_
      refine E_bipush (v := 6) dX12_overIn_59 (by decide) ?_
      refine N_iald (j := 6) dX12_overIn_61 rfl (by decide) hv ?_
      refine E_if_ne dX12_overIn_62 (fun c => absurd ((way_le iv).mp c42) c) (fun _ => ?_)
      refine E_aload_n dX12_overIn_65 rfl ?_
      refine L_get fX12_9 dX12_overIn_66 (by decide) sh_159 rfl ?_
      refine E_ic (v := 5) dX12_overIn_69 (by decide) ?_
      refine N_iald (j := 5) dX12_overIn_70 rfl (by decide) hv ?_
      refine E_ic (v := 1) dX12_overIn_71 (by decide) ?_
      refine E_icmp_ne dX12_overIn_72 (fun c72 => ?_) (fun c72 => ?_)
      · refine E_ic (v := 0) dX12_overIn_79 (by decide) ?_
        refine E_istore dX12_overIn_80 (by decide) ?_
        refine E_aload_n dX12_overIn_82 rfl ?_
        refine E_V0v vX12_184_12 dX12_overIn_83 (Nat.le_of_ble_eq_true rfl) (by decide) (sh_159 _) (s_X12_putsBack hB (fun k hk => by rw [hv]; exact hH k hk) (fun S83 h83 f83 => ?_))
        refine E_iload dX12_overIn_86 rfl ?_
        refine E_if_eq dX12_overIn_88 (fun _ => ?_) (fun c => absurd (by decide) c)
        refine E_bipush (v := 41) dX12_overIn_96 (by decide) ?_
        refine E_iret dX12_overIn_98 rfl rfl ?_
        rw [ovR, if_pos ((way_le iv).mp c42), if_neg c72] at hq
        exact hq S83 h83 f83.mh
      · refine E_ic (v := 1) dX12_overIn_75 (by decide) ?_
        refine E_goto dX12_overIn_76 ?_
        refine E_istore dX12_overIn_80 (by decide) ?_
        refine E_aload_n dX12_overIn_82 rfl ?_
        refine E_V0v vX12_184_12 dX12_overIn_83 (Nat.le_of_ble_eq_true rfl) (by decide) (sh_159 _) (s_X12_putsBack hB (fun k hk => by rw [hv]; exact hH k hk) (fun S83 h83 f83 => ?_))
        refine E_iload dX12_overIn_86 rfl ?_
        refine E_if_eq dX12_overIn_88 (fun c => absurd c (by decide)) (fun _ => ?_)
        refine E_iload dX12_overIn_91 rfl ?_
        refine E_goto dX12_overIn_93 ?_
        refine E_iret dX12_overIn_98 rfl rfl ?_
        rw [ovR, if_pos ((way_le iv).mp c42), if_pos c72] at hq
        rw [hx4]
        exact hq S83 h83 f83.mh
    · refine E_aload_n dX12_overIn_45 rfl ?_
      refine E_V0v vX12_165_12 dX12_overIn_46 (Nat.le_of_ble_eq_true rfl) (by decide) (sh_159 _) (s_X12_minute hv iv (fun S46 h46 f46 => ?_))
      refine E_iinc (v := 1) dX12_overIn_49 rfl (by decide) (by decide) ?_
      refine E_goto dX12_overIn_52 ?_
      rw [ovR, if_neg (fun h => c42 ((way_le iv).mpr h))] at hq
      exact E.loc (by exact ⟨rfl, rfl, rfl, rfl, rfl, trivial⟩) (ih (miV u) S46 _ (n + 1) (by rw [hx4, nI_1]) (by omega) h46 (IV_mi iv) (fun k hk => by rw [f46 163 (by decide) (by decide) (by decide)]; exact hB k hk) (fun k hk => by rw [mi_un iv (Or.inr (Or.inr (by omega)))]; exact hH k hk) (fun S9 a9 b9 => hq S9 a9 (f46.mh.tr b9)))
theorem s_X12_overIn {Q : Int32 → HP → Prop} (hv : S 160 = v) (iv : IV v) {m p o j : Nat} (hmm : mN v = m) (hm9 : m ≤ 9) (hp : p < m) (ho : o < m) (hne : p ≠ o) (hj : j < 6) {z : Int32} (ez : z = nI j) (hq : ∀ S', S' 160 = v → MH S S' → Q (nI (ovN v p o j)) (lay Θ S')) : C Θ (d + 5) 0 0 yX12_overIn cX12_overIn 6 (some .int) [.ref (tb Θ + 159), .int (nI p), .int (nI o), .int z] 183 (lay Θ S) (Qi Q) := by
  refine C_of rfl rfl (Nat.le_of_ble_eq_true rfl) ?_
  subst ez
  refine E_aload_n dX12_overIn_0 rfl ?_
  refine E_V0v vX12_181_12 dX12_overIn_1 (Nat.le_of_ble_eq_true rfl) (by decide) (sh_159 _) (s_X12_thinks hv (fun S1 h1 B1 f1 => ?_))
  refine E_aload_n dX12_overIn_4 rfl ?_
  refine L_get fX12_9 dX12_overIn_5 (by decide) sh_159 rfl ?_
  refine E_ic (v := 5) dX12_overIn_8 (by decide) ?_
  refine E_ic (v := 0) dX12_overIn_9 (by decide) ?_
  refine N_iast (j := 5) dX12_overIn_10 rfl (by decide) h1 (fun S10 h10 f10 => ?_)
  refine E_aload_n dX12_overIn_11 rfl ?_
  refine L_get fX12_9 dX12_overIn_12 (by decide) sh_159 rfl ?_
  refine E_bipush (v := 9) dX12_overIn_15 (by decide) ?_
  refine E_iload_n dX12_overIn_17 rfl ?_
  refine N_iast (j := 9) dX12_overIn_18 rfl (by decide) h10 (fun S18 h18 f18 => ?_)
  refine E_aload_n dX12_overIn_19 rfl ?_
  refine E_iload_n dX12_overIn_20 rfl ?_
  refine E_iload_n dX12_overIn_21 rfl ?_
  refine E_V2v vX12_152_12 dX12_overIn_22 (Nat.le_of_ble_eq_true rfl) (by decide) (sh_159 _) (s_X12_goAboard h18 p o (by omega) (by omega) (fun S22 h22 f22 => ?_))
  refine E_ic (v := 0) dX12_overIn_25 (by decide) ?_
  refine E_istore dX12_overIn_26 (by decide) ?_
  exact E.loc (by exact ⟨rfl, rfl, rfl, rfl, rfl, trivial⟩) (l_X12_overIn 41 (ovS v p o j) S22 0 0 rfl (by omega) h22 (iv.ov hmm hp ho hne hj) (fun k hk => by rw [((((MF.rf).tr f10).tr f18).tr f22) 163 (by decide) (by decide) (by decide)]; exact B1 k hk) (fun k hk => ov_un (by omega) (by omega) (by omega) (by omega) (by omega) (by omega) (by omega)) (fun S9 a9 b9 => hq S9 a9 ((f1.tr ((((MF.rf).tr f10).tr f18).tr f22).mh).tr b9)))
theorem s_X12_over {Q : Int32 → HP → Prop} (hv : S 160 = v) (iv : IV v) {x y z : Int32} (hq : ∀ S', S' 160 = v → MH S S' → Q (overR v x y z) (lay Θ S')) : C Θ (d + 6) 0 0 yX12_over cX12_over 5 (some .int) [.ref (tb Θ + 159), .int x, .int y, .int z] 183 (lay Θ S) (Qi Q) := by
  refine C_of rfl rfl (Nat.le_of_ble_eq_true rfl) ?_
  obtain ⟨m, hm9, hm, hpa⟩ := iv.1
  have hmm : mN v = m := by rw [mN, hm, nI_clamp (by omega)]
  have hm1 : S 160 1 = nI m := by rw [hv]; exact hm
  refine E_aload_n dX12_over_0 rfl ?_
  refine E_iload_n dX12_over_1 rfl ?_
  refine E_iload_n dX12_over_2 rfl ?_
  refine E_V2i vX12_137_12 dX12_over_3 (Nat.le_of_ble_eq_true rfl) (by decide) (sh_159 _) (s_X12_areTwo hm1 hm9 (fun ga gb gn => ?_) (fun gt => ?_))
  · refine E_if_eq dX12_over_6 (fun c => absurd c (by decide)) (fun _ => ?_)
    obtain ⟨p, hp, ep, ip⟩ := ix_some (by omega) ga
    obtain ⟨o, ho, eo, io⟩ := ix_some (by omega) gb
    have hne : p ≠ o := fun e => gn (by rw [ep, eo, e])
    refine E_iload_n dX12_over_9 rfl ?_
    refine E_S1i sX12_119 dX12_over_10 (Nat.le_of_ble_eq_true rfl) (s_X12_isMatter (fun g2 => ?_) (fun g2 => ?_))
    · obtain ⟨j, hj, ej, ij⟩ := ix_some (by omega) g2
      refine E_if_ne dX12_over_13 (fun _ => ?_) (fun c => absurd c (by decide))
      rw [overR, hmm, ip, Option.elim, io, Option.elim, if_neg gn, ij, Option.elim] at hq
      have hle := ovN_le (v := v) (p := p) (o := o) (j := j)
      rw [ep, eo]
      refine E_aload_n dX12_over_19 rfl ?_
      refine E_iload_n dX12_over_20 rfl ?_
      refine E_iload_n dX12_over_21 rfl ?_
      refine E_iload_n dX12_over_22 rfl ?_
      refine E_V3i vX12_187_12 dX12_over_23 (Nat.le_of_ble_eq_true rfl) (by decide) (sh_159 _) (s_X12_overIn hv iv hmm hm9 hp ho hne hj ej (fun S23 h23 f23 => ?_))
      refine E_istore dX12_over_26 (by decide) ?_
      refine E_iload dX12_over_28 rfl ?_
      refine E_bipush (v := 40) dX12_over_30 (by decide) ?_
      refine E_icmp_le dX12_over_32 (fun c32 => ?_) (fun c32 => ?_)
      · refine E_iload dX12_over_40 rfl ?_
        refine E_iret dX12_over_42 rfl rfl ?_
        rw [ovI, if_neg (fun e => absurd ((nI_leI (b := 40) (by omega) (by omega)).mp (e ▸ c32)) (by decide))] at hq
        exact hq S23 h23 f23
      · refine E_ldc dX12_over_35 kX12_136 ?_
        refine E_goto dX12_over_37 ?_
        refine E_iret dX12_over_42 rfl rfl ?_
        rw [ovI, if_pos (Nat.le_antisymm hle (Nat.lt_of_not_le (fun h => c32 (nI_le (b := 40) h (by omega)))))] at hq
        exact hq S23 h23 f23
    · have ij := ix_none (by omega) g2
      refine E_if_ne dX12_over_13 (fun c => absurd rfl c) (fun _ => ?_)
      refine E_ldc dX12_over_16 kX12_107 ?_
      refine E_iret dX12_over_18 rfl rfl ?_
      rw [overR, hmm, ip, Option.elim, io, Option.elim, if_neg gn, ij] at hq
      exact hq S hv MH.rf
  · refine E_if_eq dX12_over_6 (fun _ => ?_) (fun c => absurd (by decide) c)
    refine E_ldc dX12_over_16 kX12_107 ?_
    refine E_iret dX12_over_18 rfl rfl ?_
    rw [overR, hmm, ar_no hm9 gt] at hq
    exact hq S hv MH.rf
theorem l_X12_soonest {Q : Int32 → HP → Prop} (iv : IV v) {m p o : Nat} (hmm : mN v = m) (hm9 : m ≤ 9) (hp : p < m) (ho : o < m) (hne : p ≠ o) {z : Int32} : ∀ (f : Nat) (S : SS) (i : Nat) (b6 b4 b5 : Int32), b6 = nI i → i + f = 6 → b4 = (soF v p o i).1 → b5 = nI (soF v p o i).2 → S 160 = v → (∀ S', S' 160 = v → MH S S' → Q (soR v p o z) (lay Θ S')) → E Θ (d + 6) 0 0 yX12_soonest cX12_soonest 8 (some .int) 0 0 183 (lay Θ S) 11 [(6, .int b6), (5, .int b5), (4, .int b4), (3, .int z), (2, .int (nI o)), (1, .int (nI p)), (0, .ref (tb Θ + 159))] [] (Qi Q) := by
  intro f
  induction f with
  | zero =>
    intro S i b6 b4 b5 hb6 hi hb4 hb5 hv hq
    obtain rfl : i = 6 := by omega
    refine E_iload dX12_soonest_11 rfl ?_
    refine E_bipush (v := 6) dX12_soonest_13 (by decide) ?_
    refine E_icmp_ge dX12_soonest_15 (fun _ => ?_) (fun c => absurd (by rw [hb6]; exact nI_le (a := 6) (by omega) (by omega)) c)
    refine E_iload dX12_soonest_66 rfl ?_
    refine E_ldc dX12_soonest_68 kX12_136 ?_
    refine E_icmp_eq dX12_soonest_70 (fun c70 => ?_) (fun c70 => ?_)
    · refine E_iload dX12_soonest_77 rfl ?_
      refine E_goto dX12_soonest_79 ?_
      refine E_iret dX12_soonest_84 rfl rfl ?_
      rw [soR, if_pos (Or.inl (hb4 ▸ c70))] at hq
      rw [hb4]
      exact hq S hv MH.rf
    · refine E_iload_n dX12_soonest_73 rfl ?_
      refine E_if_ne dX12_soonest_74 (fun c74 => ?_) (fun c74 => ?_)
      · refine E_iload dX12_soonest_82 rfl ?_
        refine E_iret dX12_soonest_84 rfl rfl ?_
        rw [soR, if_neg (fun h => h.elim (fun e => c70 (hb4.trans e)) c74)] at hq
        rw [hb5]
        exact hq S hv MH.rf
      · refine E_iload dX12_soonest_77 rfl ?_
        refine E_goto dX12_soonest_79 ?_
        refine E_iret dX12_soonest_84 rfl rfl ?_
        rw [soR, if_pos (Or.inr c74)] at hq
        rw [hb4]
        exact hq S hv MH.rf
  | succ f ih =>
    intro S i b6 b4 b5 hb6 hi hb4 hb5 hv hq
    refine E_iload dX12_soonest_11 rfl ?_
    refine E_bipush (v := 6) dX12_soonest_13 (by decide) ?_
    refine E_icmp_ge dX12_soonest_15 (fun c => absurd c (fun c => absurd ((nI_leI (a := 6) (by omega) (by omega)).mp (hb6 ▸ c)) (by omega))) (fun _ => ?_)
    refine E_aload_n dX12_soonest_18 rfl ?_
    refine E_iload_n dX12_soonest_19 rfl ?_
    refine E_iload_n dX12_soonest_20 rfl ?_
    refine E_iload dX12_soonest_21 rfl ?_
    have l1 := ovN_le (v := v) (p := p) (o := o) (j := i)
    have l2 := so_le (v := v) (p := p) (o := o) i
    refine E_V3i vX12_187_12 dX12_soonest_23 (Nat.le_of_ble_eq_true rfl) (by decide) (sh_159 _) (s_X12_overIn hv iv hmm hm9 hp ho hne (show i < 6 by omega) hb6 (fun S23 h23 f23 => ?_))
    refine E_istore dX12_soonest_26 (by decide) ?_
    refine E_iload dX12_soonest_28 rfl ?_
    refine E_iload dX12_soonest_30 rfl ?_
    refine E_icmp_ge dX12_soonest_32 (fun c32 => ?_) (fun c32 => ?_)
    · refine E_iload dX12_soonest_40 rfl ?_
      refine E_istore dX12_soonest_42 (by decide) ?_
      refine E_iload dX12_soonest_44 rfl ?_
      refine E_iload dX12_soonest_46 rfl ?_
      refine E_icmp_ge dX12_soonest_48 (fun _ => ?_) (fun c => absurd c32 c)
      refine E_iload dX12_soonest_56 rfl ?_
      refine E_istore dX12_soonest_58 (by decide) ?_
      refine E_iinc (v := 1) dX12_soonest_60 rfl (by decide) (by decide) ?_
      refine E_goto dX12_soonest_63 ?_
      have nl : ¬ ovN v p o i < (soF v p o i).2 := by
        rw [hb5] at c32
        exact fun h => absurd ((nI_leI (by omega) (by omega)).mp c32) (by omega)
      exact E.loc (by exact ⟨rfl, rfl, rfl, rfl, rfl, rfl, rfl, trivial⟩) (ih S23 (i + 1) _ _ _ (by rw [hb6, nI_1]) (by omega) (by rw [so_keep nl]; exact hb4) (by rw [so_keep nl]; exact hb5) h23 (fun S9 a9 b9 => hq S9 a9 (f23.tr b9)))
    · refine E_iload dX12_soonest_35 rfl ?_
      refine E_goto dX12_soonest_37 ?_
      refine E_istore dX12_soonest_42 (by decide) ?_
      refine E_iload dX12_soonest_44 rfl ?_
      refine E_iload dX12_soonest_46 rfl ?_
      refine E_icmp_ge dX12_soonest_48 (fun c => absurd c c32) (fun _ => ?_)
      refine E_iload dX12_soonest_51 rfl ?_
      refine E_goto dX12_soonest_53 ?_
      refine E_istore dX12_soonest_58 (by decide) ?_
      refine E_iinc (v := 1) dX12_soonest_60 rfl (by decide) (by decide) ?_
      refine E_goto dX12_soonest_63 ?_
      have lt : ovN v p o i < (soF v p o i).2 := by
        rw [hb5] at c32
        exact (nI_ltI (by omega) (by omega)).mp (i_nle c32)
      exact E.loc (by exact ⟨rfl, rfl, rfl, rfl, rfl, rfl, rfl, trivial⟩) (ih S23 (i + 1) _ _ _ (by rw [hb6, nI_1]) (by omega) (by rw [so_new lt]; exact hb6) (by rw [so_new lt]) h23 (fun S9 a9 b9 => hq S9 a9 (f23.tr b9)))
theorem s_X12_soonest {Q : Int32 → HP → Prop} (hv : S 160 = v) (iv : IV v) {m p o : Nat} (hmm : mN v = m) (hm9 : m ≤ 9) (hp : p < m) (ho : o < m) (hne : p ≠ o) {z : Int32} (hq : ∀ S', S' 160 = v → MH S S' → Q (soR v p o z) (lay Θ S')) : C Θ (d + 6) 0 0 yX12_soonest cX12_soonest 8 (some .int) [.ref (tb Θ + 159), .int (nI p), .int (nI o), .int z] 183 (lay Θ S) (Qi Q) := by
  refine C_of rfl rfl (Nat.le_of_ble_eq_true rfl) ?_
  refine E_ldc dX12_soonest_0 kX12_136 ?_
  refine E_istore dX12_soonest_2 (by decide) ?_
  refine E_bipush (v := 41) dX12_soonest_4 (by decide) ?_
  refine E_istore dX12_soonest_6 (by decide) ?_
  refine E_ic (v := 0) dX12_soonest_8 (by decide) ?_
  refine E_istore dX12_soonest_9 (by decide) ?_
  exact E.loc (by exact ⟨rfl, rfl, rfl, rfl, rfl, rfl, rfl, trivial⟩) (l_X12_soonest iv hmm hm9 hp ho hne 6 S 0 0 nobody 41 rfl (by omega) rfl rfl hv hq)
theorem s_X12_settles {Q : Int32 → HP → Prop} (hv : S 160 = v) (iv : IV v) {x y z : Int32} (hq : ∀ S', S' 160 = v → MH S S' → Q (settlesR v x y z) (lay Θ S')) : C Θ (d + 7) 0 0 yX12_settles cX12_settles 4 (some .int) [.ref (tb Θ + 159), .int x, .int y, .int z] 183 (lay Θ S) (Qi Q) := by
  refine C_of rfl rfl (Nat.le_of_ble_eq_true rfl) ?_
  obtain ⟨m, hm9, hm, hpa⟩ := iv.1
  have hmm : mN v = m := by rw [mN, hm, nI_clamp (by omega)]
  have hm1 : S 160 1 = nI m := by rw [hv]; exact hm
  refine E_aload_n dX12_settles_0 rfl ?_
  refine E_iload_n dX12_settles_1 rfl ?_
  refine E_iload_n dX12_settles_2 rfl ?_
  refine E_V2i vX12_137_12 dX12_settles_3 (Nat.le_of_ble_eq_true rfl) (by decide) (sh_159 _) (s_X12_areTwo hm1 hm9 (fun ga gb gn => ?_) (fun gt => ?_))
  · refine E_if_eq dX12_settles_6 (fun c => absurd c (by decide)) (fun _ => ?_)
    obtain ⟨p, hp, ep, ip⟩ := ix_some (by omega) ga
    obtain ⟨o, ho, eo, io⟩ := ix_some (by omega) gb
    have hne : p ≠ o := fun e => gn (by rw [ep, eo, e])
    refine E_iload_n dX12_settles_9 rfl ?_
    refine E_ic (v := 0) dX12_settles_10 (by decide) ?_
    refine E_ic (v := 1) dX12_settles_11 (by decide) ?_
    refine E_S3i sX12_81 dX12_settles_12 (Nat.le_of_ble_eq_true rfl) (s_X12_in (fun g2a g2b => ?_) (fun g2 => ?_))
    · refine E_if_eq dX12_settles_15 (fun c => absurd c (by decide)) (fun _ => ?_)
      refine E_aload_n dX12_settles_18 rfl ?_
      refine E_iload_n dX12_settles_19 rfl ?_
      refine E_iload_n dX12_settles_20 rfl ?_
      refine E_iload_n dX12_settles_21 rfl ?_
      rw [settlesR, hmm, ip, Option.elim, io, Option.elim, if_neg gn, if_pos ⟨g2a, g2b⟩] at hq
      rw [ep, eo]
      refine E_V3i vX12_190_12 dX12_settles_22 (Nat.le_of_ble_eq_true rfl) (by decide) (sh_159 _) (s_X12_soonest hv iv hmm hm9 hp ho hne (fun S22 h22 f22 => ?_))
      refine E_goto dX12_settles_25 ?_
      refine E_iret dX12_settles_30 rfl rfl ?_
      exact hq S22 h22 f22
    · refine E_if_eq dX12_settles_15 (fun _ => ?_) (fun c => absurd (by decide) c)
      refine E_ldc dX12_settles_28 kX12_107 ?_
      refine E_iret dX12_settles_30 rfl rfl ?_
      rw [settlesR, hmm, ip, Option.elim, io, Option.elim, if_neg gn, if_neg g2] at hq
      exact hq S hv MH.rf
  · refine E_if_eq dX12_settles_6 (fun _ => ?_) (fun c => absurd (by decide) c)
    refine E_ldc dX12_settles_28 kX12_107 ?_
    refine E_iret dX12_settles_30 rfl rfl ?_
    rw [settlesR, hmm, ar_no hm9 gt] at hq
    exact hq S hv MH.rf
theorem l_X11_minutesOver {Q : Int32 → HP → Prop} {c : Nat} (hc : c ≤ 30000) {a1 a2 a3 : Int32} : ∀ (f : Nat) (u : WV) (S : SS) (x5 : Int32) (n : Nat), x5 = nI (n + 1) → n + f = 40 → WRep S 64 u → IV u → TRep S u → u 5 = 0 → u 10 = nI c → (∀ S', WF 64 S S' → Q (ovI (ovR u (f + 1) n)) (lay Θ S')) → E Θ (d + 6) 0 0 yX11_minutesOver cX11_minutesOver 6 (some .int) 0 0 183 (lay Θ S) 51 [(5, .int x5), (4, .int (nI c)), (3, .int a3), (2, .int a2), (1, .int a1), (0, .ref (tb Θ + 0))] [] (Qi Q) := by
  have hw : isW 64 := isW64
  intro f
  induction f with
  | zero =>
    intro u S x5 n hx5 hi hR iv hT h5 h10 hq
    refine E_iload dX11_minutesOver_51 rfl ?_
    refine E_bipush (v := 40) dX11_minutesOver_53 (by decide) ?_
    refine E_icmp_gt dX11_minutesOver_55 (fun _ => ?_) (fun c => absurd (by rw [hx5]; exact nI_lt (a := 40) (by omega) (by omega)) c)
    refine E_ldc dX11_minutesOver_98 kX11_181 ?_
    refine E_iret dX11_minutesOver_100 rfl rfl ?_
    rw [show ovR u 1 n = 41 by rw [ovR, h5, if_neg (show ¬ (0 : Int32) = 1 by decide)]; split <;> rfl, ovI, if_pos rfl] at hq
    exact hq S WF.rf
  | succ f ih =>
    intro u S x5 n hx5 hi hR iv hT h5 h10 hq
    refine E_iload dX11_minutesOver_51 rfl ?_
    refine E_bipush (v := 40) dX11_minutesOver_53 (by decide) ?_
    refine E_icmp_gt dX11_minutesOver_55 (fun c => absurd c (by rw [hx5]; exact i_lt (nI_le (b := 40) (by omega) (by omega)))) (fun _ => ?_)
    refine E_aload_n dX11_minutesOver_58 rfl ?_
    refine L_get fX11_90 dX11_minutesOver_59 (by decide) sh_0 rfl ?_
    refine W_get (j := 3) (i := 6) hR isW64 (by decide) fX11_172 dX11_minutesOver_62 ?_
    refine E_if_le dX11_minutesOver_65 (fun c65 => ?_) (fun c65 => ?_)
    · refine E_ldc dX11_minutesOver_98 kX11_181 ?_
      refine E_iret dX11_minutesOver_100 rfl rfl ?_
      rw [ovR, if_pos ((way_le iv).mp c65), h5, if_neg (by decide), ovI, if_pos rfl] at hq
      exact hq S WF.rf
    · refine E_aload_n dX11_minutesOver_68 rfl ?_
      refine L_get fX11_90 dX11_minutesOver_69 (by decide) sh_0 rfl ?_
      refine E_V0v vX11_211_10 dX11_minutesOver_72 (Nat.le_of_ble_eq_true rfl) (by have := (isW64).lt; omega) ((sh_W isW64) _) (s_X10_passMinute isW64 hR iv hT (fun S72 h72 f72 => ?_))
      refine E_aload_n dX11_minutesOver_75 rfl ?_
      refine L_get fX11_90 dX11_minutesOver_76 (by decide) sh_0 rfl ?_
      refine L_get fX11_205 dX11_minutesOver_79 (by have := (isW64).lt; omega) (sh_W isW64) rfl ?_
      refine E_ic (v := 0) dX11_minutesOver_82 (by decide) ?_
      refine T_get (j := 0) h72 isW64 dX11_minutesOver_83 rfl (by decide) ?_
      refine E_iload dX11_minutesOver_84 rfl ?_
      refine E_icmp_le dX11_minutesOver_86 (fun c86 => ?_) (fun c86 => ?_)
      · refine E_iinc (v := 1) dX11_minutesOver_92 rfl (by decide) (by decide) ?_
        refine E_goto dX11_minutesOver_95 ?_
        rcases mi_cross h5 (fun h => c65 ((way_le iv).mpr h)) with ⟨a, b, e⟩ | ⟨a, b⟩
        · rw [a, h10, show nI c + 2 = nI (c + 2) from nI_add c 2] at c86
          exact absurd ((nI_leI (by omega) (by omega)).mp c86) (by omega)
        · rw [ovR, if_neg (fun h => c65 ((way_le iv).mpr h))] at hq
          exact E.loc (by exact ⟨rfl, rfl, rfl, rfl, rfl, rfl, trivial⟩) (ih (miV u) S72 _ (n + 1) (by rw [hx5, nI_1]) (by omega) h72 (IV_mi iv) (hT.keep isW64 f72 (mi_hi iv) (mi_un iv (Or.inr (Or.inl rfl))) (tN_le iv)) b (a.trans h10) (fun S9 b9 => hq S9 (f72.tr b9)))
      · refine E_iload dX11_minutesOver_89 rfl ?_
        refine E_iret dX11_minutesOver_91 rfl rfl ?_
        rcases mi_cross h5 (fun h => c65 ((way_le iv).mpr h)) with ⟨a, b, e⟩ | ⟨a, b⟩
        · rw [ovR, if_neg (fun h => c65 ((way_le iv).mpr h)), ovR, if_pos b, if_pos e, ovI, if_neg (by omega)] at hq
          rw [hx5]
          exact hq S72 f72
        · exact absurd (by rw [a, h10]; exact Int32.le_refl _) c86
theorem max_nI {n k : Nat} (hn : n < 2000) (hk : k < 2000) : (if nI n < nI k then nI k else nI n) = nI (max n k) := by
  by_cases h : n < k
  · rw [if_pos (nI_lt h (by omega)), Nat.max_eq_right (by omega)]
  · rw [if_neg (nI_nlt (by omega) (by omega)), Nat.max_eq_left (by omega)]
theorem s_X11_minutesOver {Q : Int32 → HP → Prop} (hR : WRep S 20 v) (iv : IV v) (hT : TRep S v) {c : Nat} (hc : c ≤ 30000) (h10 : v 10 = nI c) {m p o j : Nat} (hm : v 1 = nI m) (hmm : mN v = m) (hm9 : m ≤ 9) (hp : p < m) (ho : o < m) (hne : p ≠ o) (hj : j < 6) {z : Int32} (ez : z = nI j) (hq : ∀ S', WF 64 S S' → Q (ovI (ovN v p o j)) (lay Θ S')) : C Θ (d + 6) 0 0 yX11_minutesOver cX11_minutesOver 6 (some .int) [.ref (tb Θ + 0), .int (nI p), .int (nI o), .int z] 183 (lay Θ S) (Qi Q) := by
  refine C_of rfl rfl (Nat.le_of_ble_eq_true rfl) ?_
  subst ez
  have hw : isW 20 := isW20
  refine E_aload_n dX11_minutesOver_0 rfl ?_
  refine L_get fX11_90 dX11_minutesOver_1 (by decide) sh_0 rfl ?_
  refine E_aload_n dX11_minutesOver_4 rfl ?_
  refine L_get fX11_83 dX11_minutesOver_5 (by decide) sh_0 rfl ?_
  refine E_V1v vX11_230_10 dX11_minutesOver_8 (Nat.le_of_ble_eq_true rfl) (by have := (isW64).lt; omega) ((sh_W isW64) _) (s_X10_becomeAs isW64 isW20 (by decide) hR hmm hm9 hm (law_ix hR iv) (fun S8 h8 f8 => ?_))
  refine E_aload_n dX11_minutesOver_11 rfl ?_
  refine L_get fX11_90 dX11_minutesOver_12 (by decide) sh_0 rfl ?_
  refine E_ic (v := 0) dX11_minutesOver_15 (by decide) ?_
  refine W_put (j := 2) (i := 5) h8 isW64 (by decide) fX11_175 dX11_minutesOver_16 (fun S16 h16 f16 => ?_)
  refine E_aload_n dX11_minutesOver_19 rfl ?_
  refine L_get fX11_90 dX11_minutesOver_20 (by decide) sh_0 rfl ?_
  refine E_iload_n dX11_minutesOver_23 rfl ?_
  refine E_iload_n dX11_minutesOver_24 rfl ?_
  refine E_mmin mX11_160 w_mins w_mi w_minc dX11_minutesOver_25 (Nat.le_of_ble_eq_true rfl) ?_
  rw [min_nI (by omega) (by omega)]
  refine E_iload_n dX11_minutesOver_28 rfl ?_
  refine E_iload_n dX11_minutesOver_29 rfl ?_
  refine E_mmax mX11_333 w_maxs w_mi w_maxc dX11_minutesOver_30 (Nat.le_of_ble_eq_true rfl) ?_
  rw [max_nI (by omega) (by omega)]
  refine E_iload_n dX11_minutesOver_33 rfl ?_
  refine E_V3v vX11_336_10 dX11_minutesOver_34 (Nat.le_of_ble_eq_true rfl) (by have := (isW64).lt; omega) ((sh_W isW64) _) (s_X10_goAboard isW64 h16 ((mN_upd (by omega)).trans hmm) hm9 (min p o) (max p o) (by omega) (by omega) (fun S34 h34 f34 => ?_))
  refine E_aload_n dX11_minutesOver_37 rfl ?_
  refine L_get fX11_90 dX11_minutesOver_38 (by decide) sh_0 rfl ?_
  refine L_get fX11_205 dX11_minutesOver_41 (by have := (isW64).lt; omega) (sh_W isW64) rfl ?_
  refine E_ic (v := 0) dX11_minutesOver_44 (by decide) ?_
  refine T_get (j := 0) h34 isW64 dX11_minutesOver_45 rfl (by decide) ?_
  rw [ov_cl (by omega) (by omega) hne] at h34
  rw [ov_cl (by omega) (by omega) hne, ov_un (by omega) (by omega) (by omega) (by omega) (by omega) (by omega) (by omega), h10]
  refine E_istore dX11_minutesOver_46 (by decide) ?_
  refine E_ic (v := 1) dX11_minutesOver_48 (by decide) ?_
  refine E_istore dX11_minutesOver_49 (by decide) ?_
  exact E.loc (by exact ⟨rfl, rfl, rfl, rfl, rfl, rfl, trivial⟩) (l_X11_minutesOver hc 40 (ovS v p o j) S34 1 0 rfl (by omega) h34 (iv.ov hmm hp ho hne hj) (hT.keep isW64 ((f8.tr f16).tr f34) (fun k hk => ov_un (by omega) (by omega) (by omega) (by omega) (by omega) (by omega) (by omega)) (ov_un (by omega) (by omega) (by omega) (by omega) (by omega) (by omega) (by omega)) (tN_le iv)) ov_5 ((ov_un (by omega) (by omega) (by omega) (by omega) (by omega) (by omega) (by omega)).trans h10) (fun S9 b9 => hq S9 (((f8.tr f16).tr f34).tr b9)))
theorem s_X11_over {Q : Int32 → HP → Prop} (hR : WRep S 20 v) (iv : IV v) (hT : TRep S v) {c : Nat} (hc : c ≤ 30000) (h10 : v 10 = nI c) {x y z : Int32} (hq : ∀ S', WF 64 S S' → Q (overR v x y z) (lay Θ S')) : C Θ (d + 7) 0 0 yX11_over cX11_over 4 (some .int) [.ref (tb Θ + 0), .int x, .int y, .int z] 183 (lay Θ S) (Qi Q) := by
  refine C_of rfl rfl (Nat.le_of_ble_eq_true rfl) ?_
  obtain ⟨m, hm9, hm, hpa⟩ := iv.1
  have hmm : mN v = m := by rw [mN, hm, nI_clamp (by omega)]
  have hw : isW 20 := isW20
  have hm1 : S 20 1 = nI m := (hR.1 (1, 1) (by decide)).trans hm
  refine E_aload_n dX11_over_0 rfl ?_
  refine E_iload_n dX11_over_1 rfl ?_
  refine E_iload_n dX11_over_2 rfl ?_
  refine E_V2i vX11_188_11 dX11_over_3 (Nat.le_of_ble_eq_true rfl) (by decide) (sh_0 _) (s_X11_areTwo hm1 hm9 (fun ga gb gn => ?_) (fun gt => ?_))
  · refine E_if_eq dX11_over_6 (fun c => absurd c (by decide)) (fun _ => ?_)
    obtain ⟨p, hp, ep, ip⟩ := ix_some (by omega) ga
    obtain ⟨o, ho, eo, io⟩ := ix_some (by omega) gb
    have hne : p ≠ o := fun e => gn (by rw [ep, eo, e])
    refine E_iload_n dX11_over_9 rfl ?_
    refine E_S1i sX11_139 dX11_over_10 (Nat.le_of_ble_eq_true rfl) (s_X11_isMatter (fun g2 => ?_) (fun g2 => ?_))
    · obtain ⟨j, hj, ej, ij⟩ := ix_some (by omega) g2
      refine E_if_ne dX11_over_13 (fun _ => ?_) (fun c => absurd c (by decide))
      refine E_aload_n dX11_over_19 rfl ?_
      refine E_iload_n dX11_over_20 rfl ?_
      refine E_iload_n dX11_over_21 rfl ?_
      refine E_iload_n dX11_over_22 rfl ?_
      rw [overR, hmm, ip, Option.elim, io, Option.elim, if_neg gn, ij, Option.elim] at hq
      rw [ep, eo]
      refine E_V3i vX11_220_11 dX11_over_23 (Nat.le_of_ble_eq_true rfl) (by decide) (sh_0 _) (s_X11_minutesOver hR iv hT hc h10 hm hmm hm9 hp ho hne hj ej (fun S23 f23 => ?_))
      refine E_iret dX11_over_26 rfl rfl ?_
      exact hq S23 f23
    · have ij := ix_none (by omega) g2
      refine E_if_ne dX11_over_13 (fun c => absurd rfl c) (fun _ => ?_)
      refine E_ldc dX11_over_16 kX11_105 ?_
      refine E_iret dX11_over_18 rfl rfl ?_
      rw [overR, hmm, ip, Option.elim, io, Option.elim, if_neg gn, ij] at hq
      exact hq S WF.rf
  · refine E_if_eq dX11_over_6 (fun _ => ?_) (fun c => absurd (by decide) c)
    refine E_ldc dX11_over_16 kX11_105 ?_
    refine E_iret dX11_over_18 rfl rfl ?_
    rw [overR, hmm, ar_no hm9 gt] at hq
    exact hq S WF.rf
theorem nob_ne {k : Nat} (h : k ≤ 41) : ¬ nI k = nobody := fun e => nI_pos (n := k) (by omega) (by rw [e]; decide)
theorem ovI_no {r : Nat} (h : r ≤ 41) : ovI r = nobody ↔ r = 41 := by
  unfold ovI
  by_cases e : r = 41
  · rw [if_pos e]
    exact ⟨fun _ => e, fun _ => rfl⟩
  · rw [if_neg e]
    exact ⟨fun g => absurd g (nob_ne h), fun g => absurd g e⟩
theorem l_X11_settles {Q : Int32 → HP → Prop} (iv : IV v) {c : Nat} (hc : c ≤ 30000) (h10 : v 10 = nI c) {m p o : Nat} (hm : v 1 = nI m) (hmm : mN v = m) (hm9 : m ≤ 9) (hp : p < m) (ho : o < m) (hne : p ≠ o) {z : Int32} : ∀ (f : Nat) (S : SS) (i : Nat) (b6 b4 b5 : Int32), b6 = nI i → i + f = 6 → b4 = (soF v p o i).1 → b5 = nI (soF v p o i).2 → WRep S 20 v → TRep S v → (∀ S', WF 64 S S' → Q (soR v p o z) (lay Θ S')) → E Θ (d + 7) 0 0 yX11_settles cX11_settles 8 (some .int) 0 0 183 (lay Θ S) 32 [(6, .int b6), (5, .int b5), (4, .int b4), (3, .int z), (2, .int (nI o)), (1, .int (nI p)), (0, .ref (tb Θ + 0))] [] (Qi Q) := by
  have hw : isW 20 := isW20
  intro f
  induction f with
  | zero =>
    intro S i b6 b4 b5 hb6 hi hb4 hb5 hR hT hq
    obtain rfl : i = 6 := by omega
    refine E_iload dX11_settles_32 rfl ?_
    refine E_bipush (v := 6) dX11_settles_34 (by decide) ?_
    refine E_icmp_ge dX11_settles_36 (fun _ => ?_) (fun c => absurd (by rw [hb6]; exact nI_le (a := 6) (by omega) (by omega)) c)
    refine E_iload dX11_settles_77 rfl ?_
    refine E_ldc dX11_settles_79 kX11_181 ?_
    refine E_icmp_ne dX11_settles_81 (fun c81 => ?_) (fun c81 => ?_)
    · refine E_iload_n dX11_settles_87 rfl ?_
      refine E_if_ne dX11_settles_88 (fun c88 => ?_) (fun c88 => ?_)
      · refine E_iload dX11_settles_96 rfl ?_
        refine E_iret dX11_settles_98 rfl rfl ?_
        rw [soR, if_neg (fun h => h.elim (fun e => c81 (hb4.trans e)) c88)] at hq
        rw [hb5]
        exact hq S WF.rf
      · refine E_iload dX11_settles_91 rfl ?_
        refine E_goto dX11_settles_93 ?_
        refine E_iret dX11_settles_98 rfl rfl ?_
        rw [soR, if_pos (Or.inr c88)] at hq
        rw [hb4]
        exact hq S WF.rf
    · refine E_ldc dX11_settles_84 kX11_181 ?_
      refine E_iret dX11_settles_86 rfl rfl ?_
      rw [soR, if_pos (Or.inl (hb4.symm.trans c81)), ← hb4, c81] at hq
      exact hq S WF.rf
  | succ f ih =>
    intro S i b6 b4 b5 hb6 hi hb4 hb5 hR hT hq
    refine E_iload dX11_settles_32 rfl ?_
    refine E_bipush (v := 6) dX11_settles_34 (by decide) ?_
    refine E_icmp_ge dX11_settles_36 (fun c => absurd c (fun c => absurd ((nI_leI (a := 6) (by omega) (by omega)).mp (hb6 ▸ c)) (by omega))) (fun _ => ?_)
    refine E_aload_n dX11_settles_39 rfl ?_
    refine E_iload_n dX11_settles_40 rfl ?_
    refine E_iload_n dX11_settles_41 rfl ?_
    refine E_iload dX11_settles_42 rfl ?_
    have l1 := ovN_le (v := v) (p := p) (o := o) (j := i)
    have l2 := so_le (v := v) (p := p) (o := o) i
    refine E_V3i vX11_220_11 dX11_settles_44 (Nat.le_of_ble_eq_true rfl) (by decide) (sh_0 _) (s_X11_minutesOver hR iv hT hc h10 hm hmm hm9 hp ho hne (show i < 6 by omega) hb6 (fun S44 f44 => ?_))
    refine E_istore dX11_settles_47 (by decide) ?_
    refine E_iload dX11_settles_49 rfl ?_
    refine E_ldc dX11_settles_51 kX11_181 ?_
    refine E_icmp_eq dX11_settles_53 (fun c53 => ?_) (fun c53 => ?_)
    · refine E_iinc (v := 1) dX11_settles_71 rfl (by decide) (by decide) ?_
      refine E_goto dX11_settles_74 ?_
      have nl : ¬ ovN v p o i < (soF v p o i).2 := by
        have e41 := (ovI_no l1).mp c53
        omega
      exact E.loc (by exact ⟨rfl, rfl, rfl, rfl, rfl, rfl, rfl, trivial⟩) (ih S44 (i + 1) _ _ _ (by rw [hb6, nI_1]) (by omega) (by rw [so_keep nl]; exact hb4) (by rw [so_keep nl]; exact hb5) (WRep.wf isW20 isW64 (by decide) hR (by omega) f44) (hT.keep isW64 f44 eqHi.rf rfl (tN_le iv)) (fun S9 b9 => hq S9 (f44.tr b9)))
    · refine E_iload dX11_settles_56 rfl ?_
      refine E_iload dX11_settles_58 rfl ?_
      refine E_icmp_ge dX11_settles_60 (fun c60 => ?_) (fun c60 => ?_)
      · refine E_iinc (v := 1) dX11_settles_71 rfl (by decide) (by decide) ?_
        refine E_goto dX11_settles_74 ?_
        have n41 : ¬ ovN v p o i = 41 := fun e => c53 ((ovI_no l1).mpr e)
        have nl : ¬ ovN v p o i < (soF v p o i).2 := by
          rw [ovI, if_neg n41, hb5] at c60
          exact fun h => absurd ((nI_leI (by omega) (by omega)).mp c60) (by omega)
        exact E.loc (by exact ⟨rfl, rfl, rfl, rfl, rfl, rfl, rfl, trivial⟩) (ih S44 (i + 1) _ _ _ (by rw [hb6, nI_1]) (by omega) (by rw [so_keep nl]; exact hb4) (by rw [so_keep nl]; exact hb5) (WRep.wf isW20 isW64 (by decide) hR (by omega) f44) (hT.keep isW64 f44 eqHi.rf rfl (tN_le iv)) (fun S9 b9 => hq S9 (f44.tr b9)))
      · refine E_iload dX11_settles_63 rfl ?_
        refine E_istore dX11_settles_65 (by decide) ?_
        refine E_iload dX11_settles_67 rfl ?_
        refine E_istore dX11_settles_69 (by decide) ?_
        refine E_iinc (v := 1) dX11_settles_71 rfl (by decide) (by decide) ?_
        refine E_goto dX11_settles_74 ?_
        have n41 : ¬ ovN v p o i = 41 := fun e => c53 ((ovI_no l1).mpr e)
        have lt : ovN v p o i < (soF v p o i).2 := by
          rw [ovI, if_neg n41, hb5] at c60
          exact (nI_ltI (by omega) (by omega)).mp (i_nle c60)
        exact E.loc (by exact ⟨rfl, rfl, rfl, rfl, rfl, rfl, rfl, trivial⟩) (ih S44 (i + 1) _ _ _ (by rw [hb6, nI_1]) (by omega) (by rw [so_new lt]; exact hb6) (by rw [so_new lt, ovI, if_neg n41]) (WRep.wf isW20 isW64 (by decide) hR (by omega) f44) (hT.keep isW64 f44 eqHi.rf rfl (tN_le iv)) (fun S9 b9 => hq S9 (f44.tr b9)))
theorem s_X11_settles {Q : Int32 → HP → Prop} (hR : WRep S 20 v) (iv : IV v) (hT : TRep S v) {c : Nat} (hc : c ≤ 30000) (h10 : v 10 = nI c) {x y z : Int32} (hq : ∀ S', WF 64 S S' → Q (settlesR v x y z) (lay Θ S')) : C Θ (d + 7) 0 0 yX11_settles cX11_settles 8 (some .int) [.ref (tb Θ + 0), .int x, .int y, .int z] 183 (lay Θ S) (Qi Q) := by
  refine C_of rfl rfl (Nat.le_of_ble_eq_true rfl) ?_
  obtain ⟨m, hm9, hm, hpa⟩ := iv.1
  have hmm : mN v = m := by rw [mN, hm, nI_clamp (by omega)]
  have hw : isW 20 := isW20
  have hm1 : S 20 1 = nI m := (hR.1 (1, 1) (by decide)).trans hm
  refine E_aload_n dX11_settles_0 rfl ?_
  refine E_iload_n dX11_settles_1 rfl ?_
  refine E_iload_n dX11_settles_2 rfl ?_
  refine E_V2i vX11_188_11 dX11_settles_3 (Nat.le_of_ble_eq_true rfl) (by decide) (sh_0 _) (s_X11_areTwo hm1 hm9 (fun ga gb gn => ?_) (fun gt => ?_))
  · refine E_if_eq dX11_settles_6 (fun c => absurd c (by decide)) (fun _ => ?_)
    obtain ⟨p, hp, ep, ip⟩ := ix_some (by omega) ga
    obtain ⟨o, ho, eo, io⟩ := ix_some (by omega) gb
    have hne : p ≠ o := fun e => gn (by rw [ep, eo, e])
    refine E_iload_n dX11_settles_9 rfl ?_
    refine E_ic (v := 0) dX11_settles_10 (by decide) ?_
    refine E_ic (v := 1) dX11_settles_11 (by decide) ?_
    refine E_S3i sX11_145 dX11_settles_12 (Nat.le_of_ble_eq_true rfl) (s_X11_within (fun g2a g2b => ?_) (fun g2 => ?_))
    · refine E_if_ne dX11_settles_15 (fun _ => ?_) (fun c => absurd c (by decide))
      refine E_ldc dX11_settles_21 kX11_181 ?_
      refine E_istore dX11_settles_23 (by decide) ?_
      refine E_bipush (v := 41) dX11_settles_25 (by decide) ?_
      refine E_istore dX11_settles_27 (by decide) ?_
      refine E_ic (v := 0) dX11_settles_29 (by decide) ?_
      refine E_istore dX11_settles_30 (by decide) ?_
      rw [settlesR, hmm, ip, Option.elim, io, Option.elim, if_neg gn, if_pos ⟨g2a, g2b⟩] at hq
      rw [ep, eo]
      exact E.loc (by exact ⟨rfl, rfl, rfl, rfl, rfl, rfl, rfl, trivial⟩) (l_X11_settles iv hc h10 hm hmm hm9 hp ho hne 6 S 0 0 nobody 41 rfl (by omega) rfl rfl hR hT hq)
    · refine E_if_ne dX11_settles_15 (fun c => absurd rfl c) (fun _ => ?_)
      refine E_ldc dX11_settles_18 kX11_105 ?_
      refine E_iret dX11_settles_20 rfl rfl ?_
      rw [settlesR, hmm, ip, Option.elim, io, Option.elim, if_neg gn, if_neg g2] at hq
      exact hq S WF.rf
  · refine E_if_eq dX11_settles_6 (fun _ => ?_) (fun c => absurd (by decide) c)
    refine E_ldc dX11_settles_18 kX11_105 ?_
    refine E_iret dX11_settles_20 rfl rfl ?_
    rw [settlesR, hmm, ar_no hm9 gt] at hq
    exact hq S WF.rf
end Ov
