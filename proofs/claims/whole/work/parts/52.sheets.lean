/-! sheets: the class's rows; sheet and mark on both sides -/
abbrev SH : Type := (Nat → Int32) × (Nat → Nat) × (Nat → Nat → Int32)
def CSh (S : SS) (X : SH) : Prop := ∀ s, s < 4 → S (131 + 2 * s) 0 = X.1 s ∧ S (131 + 2 * s) 1 = nI (X.2.1 s) ∧ ∀ k, k < 24 → S (131 + 2 * s + 1) k = X.2.2 s k
def RSh (S : SS) (X : SH) : Prop := ∀ s, s < 4 → S 174 s = X.1 s ∧ S 175 s = nI (X.2.1 s) ∧ ∀ k, k < 24 → S 176 (24 * s + k) = X.2.2 s k
def OSh (X : SH) : Prop := ∀ s, s < 4 → (X.1 s = -1 ∨ X.1 s = 0 ∨ X.1 s = 1) ∧ X.2.1 s ≤ 24
abbrev nothC : Int32 := -1000000011
abbrev indexC : Int32 := -1000000013
abbrev sizeC : Int32 := -1000000014
def shSet (X : SH) (s : Nat) (a : Int32) (n : Nat) : SH := (fun i => if i = s then a else X.1 i, fun i => if i = s then n else X.2.1 i, fun i k => if i = s then 0 else X.2.2 i k)
def shMk (X : SH) (s k : Nat) (v : Int32) : SH := (X.1, X.2.1, fun i j => if i = s ∧ j = k then v else X.2.2 i j)
def sheetR (X : SH) (x y z : Int32) : Int32 × SH := (ix x 4).elim (bad, X) fun s => if -1 ≤ y ∧ y ≤ 1 then (if y < 0 then (0, shSet X s y 0) else if 24 < z then (bad, X) else if z < 0 then (sizeC, X) else (z, shSet X s y z.toNatClampNeg)) else (bad, X)
def markR (X : SH) (x y z : Int32) : Int32 × SH := (ix x 4).elim (bad, X) fun s => if X.1 s < 0 then (nothC, X) else (ix y (X.2.1 s)).elim (indexC, X) fun k => if X.1 s = 0 then (if z = nobody then (kindC, X) else (1, shMk X s k z.toInt16.toInt32)) else if ¬ z = nobody ∧ ¬ (-99999 ≤ z ∧ z ≤ 99999) then (bad, X) else (1, shMk X s k z)
def CSF (S S' : SS) : Prop := ∀ k, (k < 131 ∨ 139 ≤ k) → S' k = S k
theorem CSF.rf {S : SS} : CSF S S := fun _ _ => rfl
def RSF (S S' : SS) : Prop := ∀ k, k ≠ 174 → k ≠ 175 → k ≠ 176 → S' k = S k
theorem RSF.rf {S : SS} : RSF S S := fun _ _ _ _ => rfl
theorem isR_s {s : Nat} (h : s < 4) : isR (131 + 2 * s) := Or.inl ⟨s, h, rfl⟩
theorem isR_l {s : Nat} (h : s < 5) : isR (141 + 4 * s) := Or.inr ⟨s, h, rfl⟩
theorem OSh.set {X : SH} {s n : Nat} {a : Int32} (h : OSh X) (ha : a = -1 ∨ a = 0 ∨ a = 1) (hn : n ≤ 24) : OSh (shSet X s a n) := by
  intro i hi
  by_cases e : i = s
  · exact ⟨by simp only [shSet, if_pos e]; exact ha, by simp only [shSet, if_pos e]; exact hn⟩
  · exact ⟨by simp only [shSet, if_neg e]; exact (h i hi).1, by simp only [shSet, if_neg e]; exact (h i hi).2⟩
theorem CSh.set {S S' : SS} {X : SH} {s n : Nat} {a : Int32} (h : CSh S X) (h0 : S' (131 + 2 * s) 0 = a) (h1 : S' (131 + 2 * s) 1 = nI n) (h2 : ∀ k, k < 24 → S' (131 + 2 * s + 1) k = 0) (hf : ∀ k, k ≠ 131 + 2 * s → k ≠ 131 + 2 * s + 1 → S' k = S k) : CSh S' (shSet X s a n) := by
  intro i hi
  by_cases e : i = s
  · subst e
    simp only [shSet, if_pos]
    exact ⟨h0, h1, h2⟩
  · simp only [shSet, if_neg e]
    rw [hf (131 + 2 * i) (by omega) (by omega), hf (131 + 2 * i + 1) (by omega) (by omega)]
    exact h i hi
theorem CSh.mk {S S' : SS} {X : SH} {s k : Nat} {v : Int32} (h : CSh S X) (h2 : S' (131 + 2 * s + 1) = upd (S (131 + 2 * s + 1)) k v) (hf : ∀ k, k ≠ 131 + 2 * s + 1 → S' k = S k) : CSh S' (shMk X s k v) := by
  intro i hi
  obtain ⟨a, b, c⟩ := h i hi
  refine ⟨by rw [hf _ (by omega)]; exact a, by rw [hf _ (by omega)]; exact b, fun j hj => ?_⟩
  simp only [shMk]
  by_cases e : i = s
  · subst e
    rw [h2]
    by_cases g : j = k
    · rw [g, pk_us, if_pos ⟨rfl, rfl⟩]
    · rw [pk_un g, if_neg (fun z => g z.2)]
      exact c j hj
  · rw [hf _ (by omega), if_neg (fun z => e z.1)]
    exact c j hj
theorem RSh.mk {S S' : SS} {X : SH} {s k : Nat} {v : Int32} (h : RSh S X) (hs : s < 4) (hk : k < 24) (h2 : S' 176 = upd (S 176) (24 * s + k) v) (hf : ∀ k, k ≠ 176 → S' k = S k) : RSh S' (shMk X s k v) := by
  intro i hi
  obtain ⟨a, b, c⟩ := h i hi
  refine ⟨by rw [hf _ (by omega)]; exact a, by rw [hf _ (by omega)]; exact b, fun j hj => ?_⟩
  simp only [shMk]
  rw [h2]
  by_cases e : i = s ∧ j = k
  · rw [if_pos e, e.1, e.2, pk_us]
  · rw [if_neg e, pk_un (by omega)]
    exact c j hj
theorem RSh.set {S S' : SS} {X : SH} {s n : Nat} {a : Int32} (h : RSh S X) (hs : s < 4) (h0 : S' 174 = upd (S 174) s a) (h1 : S' 175 = upd (S 175) s (nI n)) (h2 : ∀ k, k < 24 → S' 176 (24 * s + k) = 0) (h3 : ∀ j, (j < 24 * s ∨ 24 * s + 24 ≤ j) → S' 176 j = S 176 j) : RSh S' (shSet X s a n) := by
  intro i hi
  obtain ⟨x, b, c⟩ := h i hi
  by_cases e : i = s
  · subst e
    simp only [shSet, if_pos]
    exact ⟨by rw [h0, pk_us], by rw [h1, pk_us], h2⟩
  · simp only [shSet, if_neg e]
    exact ⟨by rw [h0, pk_un e]; exact x, by rw [h1, pk_un e]; exact b, fun k hk => by rw [h3 _ (by omega)]; exact c k hk⟩
theorem so_neg {X : SH} (h : OSh X) {s : Nat} (hs : s < 4) : X.1 s < 0 ↔ X.1 s = -1 := by
  rcases (h s hs).1 with e | e | e <;> rw [e] <;> decide
section Sh
variable {Θ : Th} {d : Nat} {S : SS} {v : WV}
theorem s_X5_become {Q : HP → Prop} {a : Nat} (ha : isR a) {x y : Int32} (hq : ∀ S', S' a 0 = x → S' a 1 = y → (∀ j, j < 24 → S' (a + 1) j = 0) → (∀ k, k ≠ a → k ≠ a + 1 → S' k = S k) → Q (lay Θ S')) : C Θ (d + 1) 0 0 yX5_become cX5_become 3 none [.ref (tb Θ + a), .int x, .int y] 183 (lay Θ S) (Qv Q) := by
  refine C_of rfl rfl (Nat.le_of_ble_eq_true rfl) ?_
  refine E_aload_n dX5_become_0 rfl ?_
  refine E_iload_n dX5_become_1 rfl ?_
  refine L_puti fX5_9 dX5_become_2 (by have := (ha).lt; omega) (sh_R ha) (Nat.le_of_ble_eq_true rfl) rfl ?_
  refine E_aload_n dX5_become_5 rfl ?_
  refine E_iload_n dX5_become_6 rfl ?_
  refine L_puti fX5_19 dX5_become_7 (by have := (ha).lt; omega) (sh_R ha) (Nat.le_of_ble_eq_true rfl) rfl ?_
  refine E_aload_n dX5_become_10 rfl ?_
  refine L_get fX5_15 dX5_become_11 (by have := (ha).lt; omega) (sh_R ha) rfl ?_
  refine E_ic (v := 0) dX5_become_14 (by decide) ?_
  refine E_S2v sX5_22 dX5_become_15 (Nat.le_of_ble_eq_true rfl) (s_J7_fill (by have := ha.lt; omega) (sh_Rp ha) (by decide) (fun S15 a15 f15 => ?_))
  refine E_vret dX5_become_18 rfl rfl ?_
  refine hq S15 ?_ ?_ a15 (fun k h1 h2 => ?_)
  · rw [f15 a (by omega), wr_at, pk_un (by decide), wr_at, pk_us]
  · rw [f15 a (by omega), wr_at, pk_us]
  · rw [f15 k h2, wr_ne h1, wr_ne h1]
theorem s_X5_isMissing {Q : Int32 → HP → Prop} {a : Nat} (ha : isR a) (ht : S a 0 = -1 → Q 1 (lay Θ S)) (hf : ¬ S a 0 = -1 → Q 0 (lay Θ S)) : C Θ d 0 0 yX5_isMissing cX5_isMissing 1 (some .boolean) [.ref (tb Θ + a)] 183 (lay Θ S) (Qi Q) := by
  refine C_of rfl rfl (Nat.le_of_ble_eq_true rfl) ?_
  refine E_aload_n dX5_isMissing_0 rfl ?_
  refine L_get fX5_9 dX5_isMissing_1 (by have := (ha).lt; omega) (sh_R ha) rfl ?_
  refine E_ic (v := (-1)) dX5_isMissing_4 (by decide) ?_
  refine E_icmp_ne dX5_isMissing_5 (fun c5 => ?_) (fun c5 => ?_)
  · refine E_ic (v := 0) dX5_isMissing_12 (by decide) ?_
    refine E_iret dX5_isMissing_13 rfl rfl ?_
    exact hf c5
  · refine E_ic (v := 1) dX5_isMissing_8 (by decide) ?_
    refine E_goto dX5_isMissing_9 ?_
    refine E_iret dX5_isMissing_13 rfl rfl ?_
    exact ht c5
theorem s_X5_hasPlace {Q : Int32 → HP → Prop} {a n : Nat} (ha : isR a) (hn : S a 1 = nI n) (h24 : n ≤ 24) {x : Int32} (ht : isIx x n → Q 1 (lay Θ S)) (hf : ¬ isIx x n → Q 0 (lay Θ S)) : C Θ d 0 0 yX5_hasPlace cX5_hasPlace 2 (some .boolean) [.ref (tb Θ + a), .int x] 183 (lay Θ S) (Qi Q) := by
  refine C_of rfl rfl (Nat.le_of_ble_eq_true rfl) ?_
  refine E_iload_n dX5_hasPlace_0 rfl ?_
  refine E_if_lt dX5_hasPlace_1 (fun c1 => ?_) (fun c1 => ?_)
  · refine E_ic (v := 0) dX5_hasPlace_16 (by decide) ?_
    refine E_iret dX5_hasPlace_17 rfl rfl ?_
    exact hf (fun ⟨i, hi, e⟩ => ix_neg (n := n) c1 (by omega) e)
  · refine E_iload_n dX5_hasPlace_4 rfl ?_
    refine E_aload_n dX5_hasPlace_5 rfl ?_
    refine L_get fX5_19 dX5_hasPlace_6 (by have := (ha).lt; omega) (sh_R ha) rfl ?_
    refine E_icmp_ge dX5_hasPlace_9 (fun c9 => ?_) (fun c9 => ?_)
    · refine E_ic (v := 0) dX5_hasPlace_16 (by decide) ?_
      refine E_iret dX5_hasPlace_17 rfl rfl ?_
      rw [hn] at c9
      exact hf (fun ⟨i, hi, e⟩ => ix_big c9 hi (by omega) e)
    · refine E_ic (v := 1) dX5_hasPlace_12 (by decide) ?_
      refine E_goto dX5_hasPlace_13 ?_
      refine E_iret dX5_hasPlace_17 rfl rfl ?_
      rw [hn] at c9
      exact ht (ix_of c1 (i_nle c9) (by omega))
theorem s_X5_hasPlaces {Q : Int32 → HP → Prop} {a n : Nat} (ha : isR a) (hn : S a 1 = nI n) {x y : Int32} (ht : (¬ x < 0 ∧ ¬ y < 0 ∧ ¬ nI n < x ∧ ¬ nI n - x < y) → Q 1 (lay Θ S)) (hf : ¬ (¬ x < 0 ∧ ¬ y < 0 ∧ ¬ nI n < x ∧ ¬ nI n - x < y) → Q 0 (lay Θ S)) : C Θ d 0 0 yX5_hasPlaces cX5_hasPlaces 3 (some .boolean) [.ref (tb Θ + a), .int x, .int y] 183 (lay Θ S) (Qi Q) := by
  refine C_of rfl rfl (Nat.le_of_ble_eq_true rfl) ?_
  refine E_iload_n dX5_hasPlaces_0 rfl ?_
  refine E_if_lt dX5_hasPlaces_1 (fun c1 => ?_) (fun c1 => ?_)
  · refine E_ic (v := 0) dX5_hasPlaces_30 (by decide) ?_
    refine E_iret dX5_hasPlaces_31 rfl rfl ?_
    exact hf (fun h => h.1 c1)
  · refine E_iload_n dX5_hasPlaces_4 rfl ?_
    refine E_if_lt dX5_hasPlaces_5 (fun c5 => ?_) (fun c5 => ?_)
    · refine E_ic (v := 0) dX5_hasPlaces_30 (by decide) ?_
      refine E_iret dX5_hasPlaces_31 rfl rfl ?_
      exact hf (fun h => h.2.1 c5)
    · refine E_iload_n dX5_hasPlaces_8 rfl ?_
      refine E_aload_n dX5_hasPlaces_9 rfl ?_
      refine L_get fX5_19 dX5_hasPlaces_10 (by have := (ha).lt; omega) (sh_R ha) rfl ?_
      refine E_icmp_gt dX5_hasPlaces_13 (fun c13 => ?_) (fun c13 => ?_)
      · refine E_ic (v := 0) dX5_hasPlaces_30 (by decide) ?_
        refine E_iret dX5_hasPlaces_31 rfl rfl ?_
        rw [hn] at c13
        exact hf (fun h => h.2.2.1 c13)
      · refine E_iload_n dX5_hasPlaces_16 rfl ?_
        refine E_aload_n dX5_hasPlaces_17 rfl ?_
        refine L_get fX5_19 dX5_hasPlaces_18 (by have := (ha).lt; omega) (sh_R ha) rfl ?_
        refine E_iload_n dX5_hasPlaces_21 rfl ?_
        refine E_isub dX5_hasPlaces_22 ?_
        refine E_icmp_gt dX5_hasPlaces_23 (fun c23 => ?_) (fun c23 => ?_)
        · refine E_ic (v := 0) dX5_hasPlaces_30 (by decide) ?_
          refine E_iret dX5_hasPlaces_31 rfl rfl ?_
          rw [hn] at c23
          exact hf (fun h => h.2.2.2 c23)
        · refine E_ic (v := 1) dX5_hasPlaces_26 (by decide) ?_
          refine E_goto dX5_hasPlaces_27 ?_
          refine E_iret dX5_hasPlaces_31 rfl rfl ?_
          rw [hn] at c13 c23
          exact ht ⟨c1, c5, c13, c23⟩
theorem s_X5_isNumber {Q : Int32 → HP → Prop} {a j : Nat} (ha : isR a) {x : Int32} (hx : x = nI j) (hj : j < 24) (ht : ¬ S (a + 1) j = nobody → Q 1 (lay Θ S)) (hf : S (a + 1) j = nobody → Q 0 (lay Θ S)) : C Θ d 0 0 yX5_isNumber cX5_isNumber 2 (some .boolean) [.ref (tb Θ + a), .int x] 183 (lay Θ S) (Qi Q) := by
  refine C_of rfl rfl (Nat.le_of_ble_eq_true rfl) ?_
  refine E_aload_n dX5_isNumber_0 rfl ?_
  refine L_get fX5_15 dX5_isNumber_1 (by have := (ha).lt; omega) (sh_R ha) rfl ?_
  refine E_iload_n dX5_isNumber_4 rfl ?_
  refine L_iald (j := j) dX5_isNumber_5 (by have := (ha).lt; omega) (sh_Rp ha) hx hj (by decide) ?_
  refine E_ldc dX5_isNumber_6 kX5_34 ?_
  refine E_icmp_eq dX5_isNumber_8 (fun c8 => ?_) (fun c8 => ?_)
  · refine E_ic (v := 0) dX5_isNumber_15 (by decide) ?_
    refine E_iret dX5_isNumber_16 rfl rfl ?_
    exact hf c8
  · refine E_ic (v := 1) dX5_isNumber_11 (by decide) ?_
    refine E_goto dX5_isNumber_12 ?_
    refine E_iret dX5_isNumber_16 rfl rfl ?_
    exact ht c8
theorem y_neg {y : Int32} (h0 : -1 ≤ y) : y < 0 ↔ y = -1 := by
  constructor
  · intro h
    have h1 := Int32.le_iff_toInt_le.mp h0
    have h2 := Int32.lt_iff_toInt_lt.mp h
    rw [show (-1 : Int32).toInt = -1 from rfl] at h1
    rw [show (0 : Int32).toInt = 0 from rfl] at h2
    exact Int32.toInt_inj.mp (by rw [show (-1 : Int32).toInt = -1 from rfl]; omega)
  · intro h
    rw [h]
    decide
theorem y_three {y : Int32} (h0 : -1 ≤ y) (h1 : y ≤ 1) : y = -1 ∨ y = 0 ∨ y = 1 := by
  by_cases h : y < 0
  · exact Or.inl ((y_neg h0).mp h)
  · exact Or.inr (two_ix (i_nlt h) h1)
theorem z24 {z : Int32} (h0 : ¬ z < 0) (h1 : ¬ 24 < z) : ∃ n, n ≤ 24 ∧ z = nI n := by
  obtain ⟨j, hj, e⟩ := nI_of h0
  exact ⟨j, by rw [e] at h1; exact (nI_leI (b := 24) hj (by omega)).mp (i_nlt h1), e⟩
theorem s_X11_sheet {Q : Int32 → HP → Prop} {X : SH} (hX : CSh S X) (oX : OSh X) {x y z : Int32} (hq : ∀ S', CSh S' (sheetR X x y z).2 → CSF S S' → Q (sheetR X x y z).1 (lay Θ S')) : C Θ (d + 2) 0 0 yX11_sheet cX11_sheet 4 (some .int) [.ref (tb Θ + 0), .int x, .int y, .int z] 183 (lay Θ S) (Qi Q) := by
  refine C_of rfl rfl (Nat.le_of_ble_eq_true rfl) ?_
  refine E_iload_n dX11_sheet_0 rfl ?_
  refine E_S1i sX11_237 dX11_sheet_1 (Nat.le_of_ble_eq_true rfl) (s_X11_isSheet (fun g1 => ?_) (fun g1 => ?_))
  · obtain ⟨s, hs, es, is⟩ := ix_some (by omega) g1
    refine E_if_eq dX11_sheet_4 (fun c => absurd c (by decide)) (fun _ => ?_)
    refine E_iload_n dX11_sheet_7 rfl ?_
    refine E_ic (v := (-1)) dX11_sheet_8 (by decide) ?_
    refine E_ic (v := 1) dX11_sheet_9 (by decide) ?_
    refine E_S3i sX11_145 dX11_sheet_10 (Nat.le_of_ble_eq_true rfl) (s_X11_within (fun g2a g2b => ?_) (fun g2 => ?_))
    · refine E_if_ne dX11_sheet_13 (fun _ => ?_) (fun c => absurd c (by decide))
      refine E_iload_n dX11_sheet_19 rfl ?_
      refine E_ic (v := (-1)) dX11_sheet_20 (by decide) ?_
      refine E_icmp_ne dX11_sheet_21 (fun c21 => ?_) (fun c21 => ?_)
      · refine E_iload_n dX11_sheet_37 rfl ?_
        refine E_bipush (v := 24) dX11_sheet_38 (by decide) ?_
        refine E_icmp_le dX11_sheet_40 (fun c40 => ?_) (fun c40 => ?_)
        · refine E_iload_n dX11_sheet_46 rfl ?_
          refine E_if_ge dX11_sheet_47 (fun c47 => ?_) (fun c47 => ?_)
          · refine E_aload_n dX11_sheet_54 rfl ?_
            refine L_get fX11_30 dX11_sheet_55 (by decide) sh_0 rfl ?_
            refine E_iload_n dX11_sheet_58 rfl ?_
            refine L_aald (j := s) dX11_sheet_59 (by decide) sh_5 rfl es hs (by decide) (if_pos hs) ?_
            refine E_iload_n dX11_sheet_60 rfl ?_
            refine E_iload_n dX11_sheet_61 rfl ?_
            refine E_V2v vX11_280_5 dX11_sheet_62 (Nat.le_of_ble_eq_true rfl) (by have := ((isR_s hs)).lt; omega) ((sh_R (isR_s hs)) _) (s_X5_become (isR_s hs) (fun S62 a62 b62 e62 f62 => ?_))
            refine E_iload_n dX11_sheet_65 rfl ?_
            refine E_iret dX11_sheet_66 rfl rfl ?_
            rw [sheetR, is, Option.elim, if_pos ⟨g2a, g2b⟩, if_neg (fun h => c21 ((y_neg g2a).mp h)), if_neg (i_lt c40), if_neg (i_lt c47)] at hq
            obtain ⟨n, hn, en⟩ := z24 (i_lt c47) (i_lt c40)
            exact hq S62 (hX.set a62 (by rw [b62, en, nI_clamp (by omega)]) e62 f62) (fun k hk => f62 k (by omega) (by omega))
          · refine E_ldcw dX11_sheet_50 kX11_284 ?_
            refine E_iret dX11_sheet_53 rfl rfl ?_
            rw [sheetR, is, Option.elim, if_pos ⟨g2a, g2b⟩, if_neg (fun h => c21 ((y_neg g2a).mp h)), if_neg (i_lt c40), if_pos (i_nle c47)] at hq
            exact hq S hX CSF.rf
        · refine E_ldc dX11_sheet_43 kX11_105 ?_
          refine E_iret dX11_sheet_45 rfl rfl ?_
          rw [sheetR, is, Option.elim, if_pos ⟨g2a, g2b⟩, if_neg (fun h => c21 ((y_neg g2a).mp h)), if_pos (i_nle c40)] at hq
          exact hq S hX CSF.rf
      · refine E_aload_n dX11_sheet_24 rfl ?_
        refine L_get fX11_30 dX11_sheet_25 (by decide) sh_0 rfl ?_
        refine E_iload_n dX11_sheet_28 rfl ?_
        refine L_aald (j := s) dX11_sheet_29 (by decide) sh_5 rfl es hs (by decide) (if_pos hs) ?_
        refine E_ic (v := (-1)) dX11_sheet_30 (by decide) ?_
        refine E_ic (v := 0) dX11_sheet_31 (by decide) ?_
        refine E_V2v vX11_280_5 dX11_sheet_32 (Nat.le_of_ble_eq_true rfl) (by have := ((isR_s hs)).lt; omega) ((sh_R (isR_s hs)) _) (s_X5_become (isR_s hs) (fun S32 a32 b32 e32 f32 => ?_))
        refine E_ic (v := 0) dX11_sheet_35 (by decide) ?_
        refine E_iret dX11_sheet_36 rfl rfl ?_
        rw [sheetR, is, Option.elim, if_pos ⟨g2a, g2b⟩, if_pos ((y_neg g2a).mpr c21)] at hq
        exact hq S32 (hX.set (by rw [a32, c21]) b32 e32 f32) (fun k hk => f32 k (by omega) (by omega))
    · refine E_if_ne dX11_sheet_13 (fun c => absurd rfl c) (fun _ => ?_)
      refine E_ldc dX11_sheet_16 kX11_105 ?_
      refine E_iret dX11_sheet_18 rfl rfl ?_
      rw [sheetR, is, Option.elim, if_neg g2] at hq
      exact hq S hX CSF.rf
  · have is := ix_none (by omega) g1
    refine E_if_eq dX11_sheet_4 (fun _ => ?_) (fun c => absurd (by decide) c)
    refine E_ldc dX11_sheet_16 kX11_105 ?_
    refine E_iret dX11_sheet_18 rfl rfl ?_
    rw [sheetR, is] at hq
    exact hq S hX CSF.rf
theorem ce_ix {s k : Nat} : (24 : Int32) * nI s + nI k = nI (24 * s + k) := by rw [show (24 : Int32) * nI s = nI (24 * s) from pk_mul 24 s, nI_add]
theorem l_X12_sheet {Q : Int32 → HP → Prop} {s : Nat} (hs : s < 4) {a2 a3 : Int32} : ∀ (f : Nat) (S : SS) (x4 : Int32) (i : Nat), x4 = nI i → i + f = 24 → (∀ k, k < i → S 176 (24 * s + k) = 0) → (∀ S', (∀ k, k < 24 → S' 176 (24 * s + k) = 0) → (∀ j, (j < 24 * s ∨ 24 * s + 24 ≤ j) → S' 176 j = S 176 j) → (∀ k, k ≠ 176 → S' k = S k) → ∀ x4, E Θ d 0 0 yX12_sheet cX12_sheet 5 (some .int) 0 0 183 (lay Θ S') 92 [(4, .int x4), (3, .int a3), (2, .int a2), (1, .int (nI s)), (0, .ref (tb Θ + 159))] [] (Qi Q)) → E Θ d 0 0 yX12_sheet cX12_sheet 5 (some .int) 0 0 183 (lay Θ S) 66 [(4, .int x4), (3, .int a3), (2, .int a2), (1, .int (nI s)), (0, .ref (tb Θ + 159))] [] (Qi Q) := by
  intro f
  induction f with
  | zero =>
    intro S x4 i hx4 hi hz K
    refine E_iload dX12_sheet_66 rfl ?_
    refine E_bipush (v := 24) dX12_sheet_68 (by decide) ?_
    refine E_icmp_ge dX12_sheet_70 (fun _ => ?_) (fun c => absurd (by rw [hx4]; exact nI_le (a := 24) (by omega) (by omega)) c)
    exact E.loc (by exact ⟨rfl, rfl, rfl, rfl, rfl, trivial⟩) (K S (fun k hk => hz k (by omega)) (fun _ _ => rfl) (fun _ _ => rfl) x4)
  | succ f ih =>
    intro S x4 i hx4 hi hz K
    refine E_iload dX12_sheet_66 rfl ?_
    refine E_bipush (v := 24) dX12_sheet_68 (by decide) ?_
    refine E_icmp_ge dX12_sheet_70 (fun c => absurd c (ge_no (a := 24) (by omega) (by omega) hx4 (by omega))) (fun _ => ?_)
    refine E_aload_n dX12_sheet_73 rfl ?_
    refine L_get fX12_60 dX12_sheet_74 (by decide) sh_159 rfl ?_
    refine E_bipush (v := 24) dX12_sheet_77 (by decide) ?_
    refine E_iload_n dX12_sheet_79 rfl ?_
    refine E_imul dX12_sheet_80 ?_
    refine E_iload dX12_sheet_81 rfl ?_
    refine E_iadd dX12_sheet_83 ?_
    refine E_ic (v := 0) dX12_sheet_84 (by decide) ?_
    refine L_iast (j := 24 * s + i) dX12_sheet_85 (by decide) sh_176 (by rw [hx4]; exact ce_ix) (by omega) (by decide) ?_
    refine E_iinc (v := 1) dX12_sheet_86 rfl (by decide) (by decide) ?_
    refine E_goto dX12_sheet_89 ?_
    refine E.loc (by exact ⟨rfl, rfl, rfl, rfl, rfl, trivial⟩) (ih _ _ (i + 1) (by rw [hx4, nI_1]) (by omega) (fun k hk => ?_) (fun S9 a9 b9 c9 => K S9 a9 (fun j hj => by rw [b9 j hj, wr_at, pk_un (by omega)]) (fun k hk => (c9 k hk).trans (wr_ne hk))))
    rw [wr_at]
    by_cases e : k = i
    · rw [e, pk_us]
    · rw [pk_un (by omega)]
      exact hz k (by omega)
theorem s_X12_sheet {Q : Int32 → HP → Prop} {X : SH} (hX : RSh S X) (oX : OSh X) {x y z : Int32} (hq : ∀ S', RSh S' (sheetR X x y z).2 → RSF S S' → Q (sheetR X x y z).1 (lay Θ S')) : C Θ (d + 2) 0 0 yX12_sheet cX12_sheet 5 (some .int) [.ref (tb Θ + 159), .int x, .int y, .int z] 183 (lay Θ S) (Qi Q) := by
  refine C_of rfl rfl (Nat.le_of_ble_eq_true rfl) ?_
  refine E_iload_n dX12_sheet_0 rfl ?_
  refine E_S1i sX12_202 dX12_sheet_1 (Nat.le_of_ble_eq_true rfl) (s_X12_isSheet (fun g1 => ?_) (fun g1 => ?_))
  · obtain ⟨s, hs, es, is⟩ := ix_some (by omega) g1
    refine E_if_eq dX12_sheet_4 (fun c => absurd c (by decide)) (fun _ => ?_)
    refine E_iload_n dX12_sheet_7 rfl ?_
    refine E_ic (v := (-1)) dX12_sheet_8 (by decide) ?_
    refine E_ic (v := 1) dX12_sheet_9 (by decide) ?_
    refine E_S3i sX12_81 dX12_sheet_10 (Nat.le_of_ble_eq_true rfl) (s_X12_in (fun g2a g2b => ?_) (fun g2 => ?_))
    · refine E_if_eq dX12_sheet_13 (fun c => absurd c (by decide)) (fun _ => ?_)
      refine E_iload_n dX12_sheet_16 rfl ?_
      refine E_if_lt dX12_sheet_17 (fun c17 => ?_) (fun c17 => ?_)
      · refine E_iload_n dX12_sheet_29 rfl ?_
        refine E_if_lt dX12_sheet_30 (fun _ => ?_) (fun c => absurd c17 c)
        refine E_aload_n dX12_sheet_41 rfl ?_
        refine L_get fX12_54 dX12_sheet_42 (by decide) sh_159 rfl ?_
        refine E_iload_n dX12_sheet_45 rfl ?_
        refine E_iload_n dX12_sheet_46 rfl ?_
        refine L_iast (j := s) dX12_sheet_47 (by decide) sh_174 es hs (by decide) ?_
        refine E_aload_n dX12_sheet_48 rfl ?_
        refine L_get fX12_57 dX12_sheet_49 (by decide) sh_159 rfl ?_
        refine E_iload_n dX12_sheet_52 rfl ?_
        refine E_iload_n dX12_sheet_53 rfl ?_
        refine E_if_ge dX12_sheet_54 (fun c => absurd c (i_le c17)) (fun _ => ?_)
        refine E_ic (v := 0) dX12_sheet_57 (by decide) ?_
        refine E_goto dX12_sheet_58 ?_
        refine L_iast (j := s) dX12_sheet_62 (by decide) sh_175 es hs (by decide) ?_
        refine E_ic (v := 0) dX12_sheet_63 (by decide) ?_
        refine E_istore dX12_sheet_64 (by decide) ?_
        rw [sheetR, is, Option.elim, if_pos ⟨g2a, g2b⟩, if_pos c17] at hq
        rw [es]
        refine E.loc (ls' := [(4, .int 0), (3, .int z), (2, .int y), (1, .int (nI s)), (0, .ref (tb Θ + 159))]) (by exact ⟨rfl, rfl, rfl, rfl, rfl, trivial⟩) (l_X12_sheet hs 24 _ 0 0 rfl (by omega) (fun k hk => absurd hk (by omega)) (fun S9 a9 b9 c9 x4 => ?_))
        refine E_aload_n dX12_sheet_92 rfl ?_
        refine L_get fX12_57 dX12_sheet_93 (by decide) sh_159 rfl ?_
        refine E_iload_n dX12_sheet_96 rfl ?_
        refine L_iald (j := s) dX12_sheet_97 (by decide) sh_175 rfl hs (by decide) ?_
        refine E_iret dX12_sheet_98 rfl rfl ?_
        rw [c9 175 (by decide), wr_at, pk_us]
        refine hq S9 (hX.set hs ?_ ?_ a9 (fun j hj => ?_)) (fun k h1 h2 h3 => ?_)
        · rw [c9 174 (by decide), wr_ne (by decide), wr_at]
        · rw [c9 175 (by decide), wr_at, wr_ne (by decide)]
          rfl
        · rw [b9 j hj, wr_ne (by decide), wr_ne (by decide)]
        · rw [c9 k h3, wr_ne h2, wr_ne h1]
      · refine E_iload_n dX12_sheet_20 rfl ?_
        refine E_bipush (v := 24) dX12_sheet_21 (by decide) ?_
        refine E_icmp_le dX12_sheet_23 (fun c23 => ?_) (fun c23 => ?_)
        · refine E_iload_n dX12_sheet_29 rfl ?_
          refine E_if_lt dX12_sheet_30 (fun c => absurd c c17) (fun _ => ?_)
          refine E_iload_n dX12_sheet_33 rfl ?_
          refine E_if_ge dX12_sheet_34 (fun c34 => ?_) (fun c34 => ?_)
          · refine E_aload_n dX12_sheet_41 rfl ?_
            refine L_get fX12_54 dX12_sheet_42 (by decide) sh_159 rfl ?_
            refine E_iload_n dX12_sheet_45 rfl ?_
            refine E_iload_n dX12_sheet_46 rfl ?_
            refine L_iast (j := s) dX12_sheet_47 (by decide) sh_174 es hs (by decide) ?_
            refine E_aload_n dX12_sheet_48 rfl ?_
            refine L_get fX12_57 dX12_sheet_49 (by decide) sh_159 rfl ?_
            refine E_iload_n dX12_sheet_52 rfl ?_
            refine E_iload_n dX12_sheet_53 rfl ?_
            refine E_if_ge dX12_sheet_54 (fun _ => ?_) (fun c => absurd (i_nlt c17) c)
            refine E_iload_n dX12_sheet_61 rfl ?_
            refine L_iast (j := s) dX12_sheet_62 (by decide) sh_175 es hs (by decide) ?_
            refine E_ic (v := 0) dX12_sheet_63 (by decide) ?_
            refine E_istore dX12_sheet_64 (by decide) ?_
            obtain ⟨n, hn, en⟩ := z24 (i_lt c34) (i_lt c23)
            rw [sheetR, is, Option.elim, if_pos ⟨g2a, g2b⟩, if_neg c17, if_neg (i_lt c23), if_neg (i_lt c34)] at hq
            rw [es]
            refine E.loc (ls' := [(4, .int 0), (3, .int z), (2, .int y), (1, .int (nI s)), (0, .ref (tb Θ + 159))]) (by exact ⟨rfl, rfl, rfl, rfl, rfl, trivial⟩) (l_X12_sheet hs 24 _ 0 0 rfl (by omega) (fun k hk => absurd hk (by omega)) (fun S9 a9 b9 c9 x4 => ?_))
            refine E_aload_n dX12_sheet_92 rfl ?_
            refine L_get fX12_57 dX12_sheet_93 (by decide) sh_159 rfl ?_
            refine E_iload_n dX12_sheet_96 rfl ?_
            refine L_iald (j := s) dX12_sheet_97 (by decide) sh_175 rfl hs (by decide) ?_
            refine E_iret dX12_sheet_98 rfl rfl ?_
            rw [c9 175 (by decide), wr_at, pk_us]
            refine hq S9 (hX.set hs ?_ ?_ a9 (fun j hj => ?_)) (fun k h1 h2 h3 => ?_)
            · rw [c9 174 (by decide), wr_ne (by decide), wr_at]
            · rw [c9 175 (by decide), wr_at, wr_ne (by decide), en, nI_clamp (by omega)]
            · rw [b9 j hj, wr_ne (by decide), wr_ne (by decide)]
            · rw [c9 k h3, wr_ne h2, wr_ne h1]
          · refine E_ldcw dX12_sheet_37 kX12_274 ?_
            refine E_iret dX12_sheet_40 rfl rfl ?_
            rw [sheetR, is, Option.elim, if_pos ⟨g2a, g2b⟩, if_neg c17, if_neg (i_lt c23), if_pos (i_nle c34)] at hq
            exact hq S hX RSF.rf
        · refine E_ldc dX12_sheet_26 kX12_107 ?_
          refine E_iret dX12_sheet_28 rfl rfl ?_
          rw [sheetR, is, Option.elim, if_pos ⟨g2a, g2b⟩, if_neg c17, if_pos (i_nle c23)] at hq
          exact hq S hX RSF.rf
    · refine E_if_eq dX12_sheet_13 (fun _ => ?_) (fun c => absurd (by decide) c)
      refine E_ldc dX12_sheet_26 kX12_107 ?_
      refine E_iret dX12_sheet_28 rfl rfl ?_
      rw [sheetR, is, Option.elim, if_neg g2] at hq
      exact hq S hX RSF.rf
  · have is := ix_none (by omega) g1
    refine E_if_eq dX12_sheet_4 (fun _ => ?_) (fun c => absurd (by decide) c)
    refine E_ldc dX12_sheet_26 kX12_107 ?_
    refine E_iret dX12_sheet_28 rfl rfl ?_
    rw [sheetR, is] at hq
    exact hq S hX RSF.rf
theorem s_X11_mark {Q : Int32 → HP → Prop} {X : SH} (hX : CSh S X) (oX : OSh X) {x y z : Int32} (hq : ∀ S', CSh S' (markR X x y z).2 → CSF S S' → Q (markR X x y z).1 (lay Θ S')) : C Θ (d + 2) 0 0 yX11_mark cX11_mark 5 (some .int) [.ref (tb Θ + 0), .int x, .int y, .int z] 183 (lay Θ S) (Qi Q) := by
  refine C_of rfl rfl (Nat.le_of_ble_eq_true rfl) ?_
  refine E_iload_n dX11_mark_0 rfl ?_
  refine E_S1i sX11_237 dX11_mark_1 (Nat.le_of_ble_eq_true rfl) (s_X11_isSheet (fun g1 => ?_) (fun g1 => ?_))
  · obtain ⟨s, hs, es, is⟩ := ix_some (by omega) g1
    refine E_if_ne dX11_mark_4 (fun _ => ?_) (fun c => absurd c (by decide))
    refine E_aload_n dX11_mark_10 rfl ?_
    refine L_get fX11_30 dX11_mark_11 (by decide) sh_0 rfl ?_
    refine E_iload_n dX11_mark_14 rfl ?_
    refine L_aald (j := s) dX11_mark_15 (by decide) sh_5 rfl es hs (by decide) (if_pos hs) ?_
    refine E_astore dX11_mark_16 (by decide) ?_
    refine E_aload dX11_mark_18 rfl ?_
    refine E_V0i vX11_240_5 dX11_mark_20 (Nat.le_of_ble_eq_true rfl) (by have := ((isR_s hs)).lt; omega) ((sh_R (isR_s hs)) _) (s_X5_isMissing (isR_s hs) (fun gm => ?_) (fun gm => ?_))
    · have gm : X.1 s < 0 := (so_neg oX hs).mpr ((hX s hs).1.symm.trans gm)
      refine E_if_eq dX11_mark_23 (fun c => absurd c (by decide)) (fun _ => ?_)
      refine E_ldc dX11_mark_26 kX11_244 ?_
      refine E_iret dX11_mark_28 rfl rfl ?_
      rw [markR, is, Option.elim, if_pos gm] at hq
      exact hq S hX CSF.rf
    · have gm : ¬ X.1 s < 0 := fun h => gm ((hX s hs).1.trans ((so_neg oX hs).mp h))
      refine E_if_eq dX11_mark_23 (fun _ => ?_) (fun c => absurd (by decide) c)
      refine E_aload dX11_mark_29 rfl ?_
      refine E_iload_n dX11_mark_31 rfl ?_
      refine E_V1i vX11_285_5 dX11_mark_32 (Nat.le_of_ble_eq_true rfl) (by have := ((isR_s hs)).lt; omega) ((sh_R (isR_s hs)) _) (s_X5_hasPlace (isR_s hs) (hX s hs).2.1 (oX s hs).2 (fun gp => ?_) (fun gp => ?_))
      · obtain ⟨k, hk, ek, ik⟩ := ix_some (by have := (oX s hs).2; omega) gp
        have hk24 : k < 24 := by have := (oX s hs).2; omega
        refine E_if_ne dX11_mark_35 (fun _ => ?_) (fun c => absurd c (by decide))
        refine E_aload dX11_mark_42 rfl ?_
        refine L_get fX11_289 dX11_mark_44 (by have := ((isR_s hs)).lt; omega) (sh_R (isR_s hs)) rfl ?_
        refine E_if_ne dX11_mark_47 (fun c47 => ?_) (fun c47 => ?_)
        · refine E_iload_n dX11_mark_70 rfl ?_
          refine E_ldc dX11_mark_71 kX11_181 ?_
          refine E_icmp_eq dX11_mark_73 (fun c73 => ?_) (fun c73 => ?_)
          · refine E_aload dX11_mark_92 rfl ?_
            refine L_get fX11_292 dX11_mark_94 (by have := ((isR_s hs)).lt; omega) (sh_R (isR_s hs)) rfl ?_
            refine E_iload_n dX11_mark_97 rfl ?_
            refine E_iload_n dX11_mark_98 rfl ?_
            refine L_iast (j := k) dX11_mark_99 (by have := ((isR_s hs)).lt; omega) (sh_Rp (isR_s hs)) ek hk24 (by decide) ?_
            refine E_ic (v := 1) dX11_mark_100 (by decide) ?_
            refine E_iret dX11_mark_101 rfl rfl ?_
            rw [markR, is, Option.elim, if_neg gm, ik, Option.elim, if_neg (fun h => c47 ((hX s hs).1.trans h)), if_neg (fun h => h.1 c73)] at hq
            exact hq _ (hX.mk wr_at (fun k hk => wr_ne hk)) (fun k hk => wr_ne (by omega))
          · refine E_iload_n dX11_mark_76 rfl ?_
            refine E_ldcw dX11_mark_77 kX11_295 ?_
            refine E_ldcw dX11_mark_80 kX11_296 ?_
            refine E_S3i sX11_145 dX11_mark_83 (Nat.le_of_ble_eq_true rfl) (s_X11_within (fun g5a g5b => ?_) (fun g5 => ?_))
            · refine E_if_ne dX11_mark_86 (fun _ => ?_) (fun c => absurd c (by decide))
              refine E_aload dX11_mark_92 rfl ?_
              refine L_get fX11_292 dX11_mark_94 (by have := ((isR_s hs)).lt; omega) (sh_R (isR_s hs)) rfl ?_
              refine E_iload_n dX11_mark_97 rfl ?_
              refine E_iload_n dX11_mark_98 rfl ?_
              refine L_iast (j := k) dX11_mark_99 (by have := ((isR_s hs)).lt; omega) (sh_Rp (isR_s hs)) ek hk24 (by decide) ?_
              refine E_ic (v := 1) dX11_mark_100 (by decide) ?_
              refine E_iret dX11_mark_101 rfl rfl ?_
              rw [markR, is, Option.elim, if_neg gm, ik, Option.elim, if_neg (fun h => c47 ((hX s hs).1.trans h)), if_neg (fun h => h.2 ⟨g5a, g5b⟩)] at hq
              exact hq _ (hX.mk wr_at (fun k hk => wr_ne hk)) (fun k hk => wr_ne (by omega))
            · refine E_if_ne dX11_mark_86 (fun c => absurd rfl c) (fun _ => ?_)
              refine E_ldc dX11_mark_89 kX11_105 ?_
              refine E_iret dX11_mark_91 rfl rfl ?_
              rw [markR, is, Option.elim, if_neg gm, ik, Option.elim, if_neg (fun h => c47 ((hX s hs).1.trans h)), if_pos ⟨c73, g5⟩] at hq
              exact hq S hX CSF.rf
        · refine E_iload_n dX11_mark_50 rfl ?_
          refine E_ldc dX11_mark_51 kX11_181 ?_
          refine E_icmp_ne dX11_mark_53 (fun c53 => ?_) (fun c53 => ?_)
          · refine E_aload dX11_mark_59 rfl ?_
            refine L_get fX11_292 dX11_mark_61 (by have := ((isR_s hs)).lt; omega) (sh_R (isR_s hs)) rfl ?_
            refine E_iload_n dX11_mark_64 rfl ?_
            refine E_iload_n dX11_mark_65 rfl ?_
            refine E_i2s dX11_mark_66 ?_
            refine L_iast (j := k) dX11_mark_67 (by have := ((isR_s hs)).lt; omega) (sh_Rp (isR_s hs)) ek hk24 (by decide) ?_
            refine E_ic (v := 1) dX11_mark_68 (by decide) ?_
            refine E_iret dX11_mark_69 rfl rfl ?_
            rw [markR, is, Option.elim, if_neg gm, ik, Option.elim, if_pos ((hX s hs).1.symm.trans c47), if_neg c53] at hq
            exact hq _ (hX.mk wr_at (fun k hk => wr_ne hk)) (fun k hk => wr_ne (by omega))
          · refine E_ldc dX11_mark_56 kX11_152 ?_
            refine E_iret dX11_mark_58 rfl rfl ?_
            rw [markR, is, Option.elim, if_neg gm, ik, Option.elim, if_pos ((hX s hs).1.symm.trans c47), if_pos c53] at hq
            exact hq S hX CSF.rf
      · have ik := ix_none (by have := (oX s hs).2; omega) gp
        refine E_if_ne dX11_mark_35 (fun c => absurd rfl c) (fun _ => ?_)
        refine E_ldcw dX11_mark_38 kX11_288 ?_
        refine E_iret dX11_mark_41 rfl rfl ?_
        rw [markR, is, Option.elim, if_neg gm, ik] at hq
        exact hq S hX CSF.rf
  · have is := ix_none (by omega) g1
    refine E_if_ne dX11_mark_4 (fun c => absurd rfl c) (fun _ => ?_)
    refine E_ldc dX11_mark_7 kX11_105 ?_
    refine E_iret dX11_mark_9 rfl rfl ?_
    rw [markR, is] at hq
    exact hq S hX CSF.rf
end Sh
