/-! the reference: loops over minutes, over passengers; copies -/
theorem miN_add (v : WV) : ∀ n, miN v (n + 1) = miN (miV v) n
  | 0 => rfl
  | n + 1 => by rw [miN, miN_add v n, miN]
/-- nothing but the cells named, and the two scratch rows, is changed -/
def MG (S S' : SS) (ks : List Nat) : Prop := ∀ k, k ∉ ks → k ≠ 172 → k ≠ 173 → S' k = S k
section Ref6
variable {Θ : Th} {d : Nat} {S : SS} {v : WV}
theorem l_X12_goesOn {Q : HP → Prop} {n : Nat} (hn : n ≤ 1000) : ∀ (f : Nat) (v : WV) (S : SS) (x2 : Int32) (i : Nat), x2 = nI i → i + f = n → S 160 = v → IV v → (∀ S', S' 160 = miN v f → MF S S' → Q (lay Θ S')) → E Θ (d + 5) 0 0 yX12_goesOn cX12_goesOn 3 none 0 0 183 (lay Θ S) 2 [(2, .int x2), (1, .int (nI n)), (0, .ref (tb Θ + 159))] [] (Qv Q) := by
  intro f
  induction f with
  | zero =>
    intro v S x2 i hx2 hi hv iv hq
    refine E_iload_n dX12_goesOn_2 rfl ?_
    refine E_iload_n dX12_goesOn_3 rfl ?_
    refine E_icmp_ge dX12_goesOn_4 (fun _ => ?_) (fun c => absurd (by rw [hx2]; exact nI_le (by omega) (by omega)) c)
    refine E_vret dX12_goesOn_17 rfl rfl ?_
    exact hq S hv MF.rf
  | succ f ih =>
    intro v S x2 i hx2 hi hv iv hq
    refine E_iload_n dX12_goesOn_2 rfl ?_
    refine E_iload_n dX12_goesOn_3 rfl ?_
    refine E_icmp_ge dX12_goesOn_4 (fun c => absurd c (fun c => absurd ((nI_leI (by omega) (by omega)).mp (hx2 ▸ c)) (by omega))) (fun _ => ?_)
    refine E_aload_n dX12_goesOn_7 rfl ?_
    refine E_V0v vX12_165_12 dX12_goesOn_8 (Nat.le_of_ble_eq_true rfl) (by decide) (sh_159 _) (s_X12_minute hv iv (fun S8 h8 f8 => ?_))
    refine E_iinc (v := 1) dX12_goesOn_11 rfl (by decide) (by decide) ?_
    refine E_goto dX12_goesOn_14 ?_
    exact E.loc (by exact ⟨rfl, rfl, rfl, trivial⟩) (ih (miV v) _ _ (i + 1) (by rw [hx2, nI_1]) (by omega) h8 (IV_mi iv) (fun S9 a9 b9 => hq S9 (by rw [miN_add]; exact a9) (((MF.rf).tr f8).tr b9)))
theorem s_X12_goesOn {Q : HP → Prop} (hv : S 160 = v) {x : Int32} {n : Nat} (iv : IV v) (hn : n ≤ 1000) (hx : x = nI n) (hq : ∀ S', S' 160 = miN v n → MF S S' → Q (lay Θ S')) : C Θ (d + 5) 0 0 yX12_goesOn cX12_goesOn 3 none [.ref (tb Θ + 159), .int x] 183 (lay Θ S) (Qv Q) := by
  refine C_of rfl rfl (Nat.le_of_ble_eq_true rfl) ?_
  refine E_ic (v := 0) dX12_goesOn_0 (by decide) ?_
  refine E_istore_n dX12_goesOn_1 (by decide) ?_
  subst hx
  exact E.loc (by exact ⟨rfl, rfl, rfl, trivial⟩) (l_X12_goesOn hn n v S 0 0 rfl (by omega) hv iv hq)
theorem l_X12_tempers {Q : Int32 → HP → Prop} (hv : S 160 = v) {m : Nat} (hm : v 1 = nI m) (hm9 : m ≤ 9) (hq : Q (teF v m) (lay Θ S)) : ∀ (f : Nat) (x1 x2 : Int32) (i : Nat), x1 = teF v i → x2 = nI i → i + f = m → E Θ (d + 1) 0 0 yX12_tempers cX12_tempers 3 (some .int) 0 0 183 (lay Θ S) 4 [(2, .int x2), (1, .int x1), (0, .ref (tb Θ + 159))] [] (Qi Q) := by
  intro f
  induction f with
  | zero =>
    intro x1 x2 i hx1 hx2 hi
    refine E_iload_n dX12_tempers_4 rfl ?_
    refine E_aload_n dX12_tempers_5 rfl ?_
    refine L_get fX12_9 dX12_tempers_6 (by decide) sh_159 rfl ?_
    refine E_ic (v := 1) dX12_tempers_9 (by decide) ?_
    refine N_iald (j := 1) dX12_tempers_10 rfl (by decide) hv ?_
    refine E_icmp_ge dX12_tempers_11 (fun _ => ?_) (fun c => absurd (by rw [hx2, hm]; exact nI_le (by omega) (by omega)) c)
    refine E_iload_n dX12_tempers_29 rfl ?_
    refine E_iret dX12_tempers_30 rfl rfl ?_
    have e : i = m := by omega
    rw [hx1, e]
    exact hq
  | succ f ih =>
    intro x1 x2 i hx1 hx2 hi
    refine E_iload_n dX12_tempers_4 rfl ?_
    refine E_aload_n dX12_tempers_5 rfl ?_
    refine L_get fX12_9 dX12_tempers_6 (by decide) sh_159 rfl ?_
    refine E_ic (v := 1) dX12_tempers_9 (by decide) ?_
    refine N_iald (j := 1) dX12_tempers_10 rfl (by decide) hv ?_
    refine E_icmp_ge dX12_tempers_11 (fun c => absurd c (fun c => absurd ((nI_leI (by omega) (by omega)).mp (hm ▸ hx2 ▸ c)) (by omega))) (fun _ => ?_)
    refine E_iload_n dX12_tempers_14 rfl ?_
    refine E_aload_n dX12_tempers_15 rfl ?_
    refine E_iload_n dX12_tempers_16 rfl ?_
    refine E_ic (v := 2) dX12_tempers_17 (by decide) ?_
    refine E_V2i vX12_85_12 dX12_tempers_18 (Nat.le_of_ble_eq_true rfl) (by decide) (sh_159 _) (s_X12_of hv i (2) (17 + 9 * i) hx2 rfl (by omega) (by omega) ?_)
    refine E_iadd dX12_tempers_21 ?_
    refine E_istore_n dX12_tempers_22 (by decide) ?_
    refine E_iinc (v := 1) dX12_tempers_23 rfl (by decide) (by decide) ?_
    refine E_goto dX12_tempers_26 ?_
    exact E.loc (by exact ⟨rfl, rfl, rfl, trivial⟩) (ih _ _ (i + 1) (by rw [hx1, teF]) (by rw [hx2, nI_1]) (by omega))
theorem s_X12_tempers {Q : Int32 → HP → Prop} (hv : S 160 = v) {m : Nat} (hm : v 1 = nI m) (hm9 : m ≤ 9) (hq : Q (teF v (mN v)) (lay Θ S)) : C Θ (d + 1) 0 0 yX12_tempers cX12_tempers 3 (some .int) [.ref (tb Θ + 159)] 183 (lay Θ S) (Qi Q) := by
  refine C_of rfl rfl (Nat.le_of_ble_eq_true rfl) ?_
  refine E_ic (v := 0) dX12_tempers_0 (by decide) ?_
  refine E_istore_n dX12_tempers_1 (by decide) ?_
  refine E_ic (v := 0) dX12_tempers_2 (by decide) ?_
  refine E_istore_n dX12_tempers_3 (by decide) ?_
  exact E.loc (by exact ⟨rfl, rfl, rfl, trivial⟩) (l_X12_tempers hv hm hm9 (by rw [mN, hm, nI_clamp (by omega)] at hq; exact hq) m 0 0 0 rfl rfl (by omega))
theorem l_X12_across {Q : Int32 → HP → Prop} (hv : S 160 = v) {m : Nat} (hm : v 1 = nI m) (hm9 : m ≤ 9) (hq : Q (acF v m) (lay Θ S)) : ∀ (f : Nat) (x1 x2 : Int32) (i : Nat), x1 = acF v i → x2 = nI i → i + f = m → E Θ (d + 1) 0 0 yX12_across cX12_across 3 (some .int) 0 0 183 (lay Θ S) 4 [(2, .int x2), (1, .int x1), (0, .ref (tb Θ + 159))] [] (Qi Q) := by
  intro f
  induction f with
  | zero =>
    intro x1 x2 i hx1 hx2 hi
    refine E_iload_n dX12_across_4 rfl ?_
    refine E_aload_n dX12_across_5 rfl ?_
    refine L_get fX12_9 dX12_across_6 (by decide) sh_159 rfl ?_
    refine E_ic (v := 1) dX12_across_9 (by decide) ?_
    refine N_iald (j := 1) dX12_across_10 rfl (by decide) hv ?_
    refine E_icmp_ge dX12_across_11 (fun _ => ?_) (fun c => absurd (by rw [hx2, hm]; exact nI_le (by omega) (by omega)) c)
    refine E_iload_n dX12_across_40 rfl ?_
    refine E_iret dX12_across_41 rfl rfl ?_
    have e : i = m := by omega
    rw [hx1, e]
    exact hq
  | succ f ih =>
    intro x1 x2 i hx1 hx2 hi
    refine E_iload_n dX12_across_4 rfl ?_
    refine E_aload_n dX12_across_5 rfl ?_
    refine L_get fX12_9 dX12_across_6 (by decide) sh_159 rfl ?_
    refine E_ic (v := 1) dX12_across_9 (by decide) ?_
    refine N_iald (j := 1) dX12_across_10 rfl (by decide) hv ?_
    refine E_icmp_ge dX12_across_11 (fun c => absurd c (fun c => absurd ((nI_leI (by omega) (by omega)).mp (hm ▸ hx2 ▸ c)) (by omega))) (fun _ => ?_)
    refine E_iload_n dX12_across_14 rfl ?_
    refine E_aload_n dX12_across_15 rfl ?_
    refine E_iload_n dX12_across_16 rfl ?_
    refine E_ic (v := 1) dX12_across_17 (by decide) ?_
    refine E_V2i vX12_85_12 dX12_across_18 (Nat.le_of_ble_eq_true rfl) (by decide) (sh_159 _) (s_X12_of hv i (1) (16 + 9 * i) hx2 rfl (by omega) (by omega) ?_)
    refine E_ic (v := 1) dX12_across_21 (by decide) ?_
    refine E_icmp_ne dX12_across_22 (fun c22 => ?_) (fun c22 => ?_)
    · refine E_ic (v := 0) dX12_across_31 (by decide) ?_
      refine E_ior dX12_across_32 ?_
      refine E_istore_n dX12_across_33 (by decide) ?_
      refine E_iinc (v := 1) dX12_across_34 rfl (by decide) (by decide) ?_
      refine E_goto dX12_across_37 ?_
      exact E.loc (by exact ⟨rfl, rfl, rfl, trivial⟩) (ih _ _ (i + 1) (by rw [hx1, acF]; simp [c22, hx2]) (by rw [hx2, nI_1]) (by omega))
    · refine E_ic (v := 1) dX12_across_25 (by decide) ?_
      refine E_iload_n dX12_across_26 rfl ?_
      refine E_ishl dX12_across_27 ?_
      refine E_goto dX12_across_28 ?_
      refine E_ior dX12_across_32 ?_
      refine E_istore_n dX12_across_33 (by decide) ?_
      refine E_iinc (v := 1) dX12_across_34 rfl (by decide) (by decide) ?_
      refine E_goto dX12_across_37 ?_
      exact E.loc (by exact ⟨rfl, rfl, rfl, trivial⟩) (ih _ _ (i + 1) (by rw [hx1, acF]; simp [c22, hx2]) (by rw [hx2, nI_1]) (by omega))
theorem s_X12_across {Q : Int32 → HP → Prop} (hv : S 160 = v) {m : Nat} (hm : v 1 = nI m) (hm9 : m ≤ 9) (hq : Q (acF v (mN v)) (lay Θ S)) : C Θ (d + 1) 0 0 yX12_across cX12_across 3 (some .int) [.ref (tb Θ + 159)] 183 (lay Θ S) (Qi Q) := by
  refine C_of rfl rfl (Nat.le_of_ble_eq_true rfl) ?_
  refine E_ic (v := 0) dX12_across_0 (by decide) ?_
  refine E_istore_n dX12_across_1 (by decide) ?_
  refine E_ic (v := 0) dX12_across_2 (by decide) ?_
  refine E_istore_n dX12_across_3 (by decide) ?_
  exact E.loc (by exact ⟨rfl, rfl, rfl, trivial⟩) (l_X12_across hv hm hm9 (by rw [mN, hm, nI_clamp (by omega)] at hq; exact hq) m 0 0 0 rfl rfl (by omega))
theorem cpy_step {f g : Nat → Int32} {i : Nat} : upd (fun k => if k < i then f k else g k) i (f i) = fun k => if k < i + 1 then f k else g k := by
  funext k
  by_cases h : k = i
  · subst h
    rw [pk_us, if_pos (by omega)]
  · rw [pk_un h]
    by_cases h2 : k < i
    · rw [if_pos h2, if_pos (by omega)]
    · rw [if_neg h2, if_neg (by omega)]
theorem l_X12_copyAll {Q : HP → Prop} {a b : Nat} (ha : a < 183) (hIa : ∀ f, cellOf Θ a f = iA Θ 0 1468 f) (hb : b < 183) (hIb : ∀ f, cellOf Θ b f = iA Θ 0 1468 f) (hab : a ≠ b) : ∀ (f : Nat) (S : SS) (x2 : Int32) (i : Nat) (g : Nat → Int32), x2 = nI i → i + f = 1468 → S b = (fun k => if k < i then S a k else g k) → (∀ S', S' b = (fun k => if k < 1468 then S a k else g k) → (∀ k, k ≠ b → S' k = S k) → Q (lay Θ S')) → E Θ d 0 0 yX12_copyAll cX12_copyAll 3 none 0 0 183 (lay Θ S) 2 [(2, .int x2), (1, .ref (tb Θ + b)), (0, .ref (tb Θ + a))] [] (Qv Q) := by
  intro f
  induction f with
  | zero =>
    intro S x2 i g hx2 hi hS hq
    refine E_iload_n dX12_copyAll_2 rfl ?_
    refine E_sipush (v := 1468) dX12_copyAll_3 (by decide) ?_
    refine E_icmp_ge dX12_copyAll_6 (fun _ => ?_) (fun c => absurd (by rw [hx2]; exact nI_le (a := 1468) (by omega) (by omega)) c)
    refine E_vret dX12_copyAll_21 rfl rfl ?_
    exact hq S (by rw [hS, show i = 1468 by omega]) (fun _ _ => rfl)
  | succ f ih =>
    intro S x2 i g hx2 hi hS hq
    refine E_iload_n dX12_copyAll_2 rfl ?_
    refine E_sipush (v := 1468) dX12_copyAll_3 (by decide) ?_
    refine E_icmp_ge dX12_copyAll_6 (fun c => absurd ((nI_leI (a := 1468) (by omega) (by omega)).mp (hx2 ▸ c)) (by omega)) (fun _ => ?_)
    refine E_aload_n dX12_copyAll_9 rfl ?_
    refine E_iload_n dX12_copyAll_10 rfl ?_
    refine E_aload_n dX12_copyAll_11 rfl ?_
    refine E_iload_n dX12_copyAll_12 rfl ?_
    refine L_iald (j := i) dX12_copyAll_13 ha hIa hx2 (by omega) (by decide) ?_
    refine L_iast (j := i) dX12_copyAll_14 hb hIb hx2 (by omega) (by decide) ?_
    refine E_iinc (v := 1) dX12_copyAll_15 rfl (by decide) (by decide) ?_
    refine E_goto dX12_copyAll_18 ?_
    refine E.loc (by exact ⟨rfl, rfl, rfl, trivial⟩) (ih (wr S b i (S a i)) _ (i + 1) g (by rw [hx2, nI_1]) (by omega) ?_ ?_)
    · rw [wr_at, wr_ne hab, hS]
      exact cpy_step
    · intro S9 h9 f9
      rw [wr_ne hab] at h9
      exact hq S9 h9 (fun k hk => by rw [f9 k hk, wr_ne hk])
theorem s_X12_copyAll {Q : HP → Prop} {a b : Nat} (ha : a < 183) (hIa : ∀ f, cellOf Θ a f = iA Θ 0 1468 f) (hb : b < 183) (hIb : ∀ f, cellOf Θ b f = iA Θ 0 1468 f) (hab : a ≠ b) (hq : ∀ S', (∀ k, k < 1468 → S' b k = S a k) → (∀ k, 1468 ≤ k → S' b k = S b k) → (∀ k, k ≠ b → S' k = S k) → Q (lay Θ S')) : C Θ d 0 0 yX12_copyAll cX12_copyAll 3 none [.ref (tb Θ + a), .ref (tb Θ + b)] 183 (lay Θ S) (Qv Q) := by
  refine C_of rfl rfl (Nat.le_of_ble_eq_true rfl) ?_
  refine E_ic (v := 0) dX12_copyAll_0 (by decide) ?_
  refine E_istore_n dX12_copyAll_1 (by decide) ?_
  exact E.loc (by exact ⟨rfl, rfl, rfl, trivial⟩) (l_X12_copyAll ha hIa hb hIb hab 1468 S 0 0 (S b) rfl (by omega) (by funext k; simp) (fun S9 h9 f9 => hq S9 (fun k hk => by rw [h9]; simp [hk]) (fun k hk => by rw [h9]; simp [Nat.not_lt.mpr hk]) f9))
end Ref6
