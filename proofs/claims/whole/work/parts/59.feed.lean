/-! feed, on both sides -/
def byW (x : Int32) (j : Nat) : Int32 := nI (x.toBitVec.toNat / 2 ^ (24 - 8 * j) % 256)
theorem sar_nat {x s : Int32} {k : Nat} (hk : k = 0 ∨ k = 8 ∨ k = 16 ∨ k = 24) (hs : (s.toBitVec.smod 32).toNat = k) : (x >>> s).toBitVec.toNat % 256 = x.toBitVec.toNat / 2 ^ k % 256 := by
  have e := pk_shr x s k hs
  rw [Int.shiftRight_eq_div_pow] at e
  have hx := x.toBitVec.isLt
  have hy := (x >>> s).toBitVec.isLt
  have a : x.toInt = x.toBitVec.toInt := rfl
  have b : (x >>> s).toInt = (x >>> s).toBitVec.toInt := rfl
  rw [a, b, BitVec.toInt_eq_toNat_cond, BitVec.toInt_eq_toNat_cond] at e
  generalize (x >>> s).toBitVec.toNat = y at e hy ⊢
  generalize x.toBitVec.toNat = z at e hx ⊢
  rcases hk with rfl | rfl | rfl | rfl
  · split at e <;> split at e <;> omega
  · split at e <;> split at e <;> omega
  · split at e <;> split at e <;> omega
  · split at e <;> split at e <;> omega
theorem sar_by {x : Int32} {j : Nat} (hj : j < 4) : (x >>> (nI (24 - 8 * j) &&& 31)) &&& 255 = byW x j := by
  rw [pk_and _ 8 (by decide), byW]
  rcases (show j = 0 ∨ j = 1 ∨ j = 2 ∨ j = 3 by omega) with rfl | rfl | rfl | rfl
  · rw [show (2 : Nat) ^ 8 = 256 from rfl, sar_nat (k := 24) (by omega) (by decide)]
  · rw [show (2 : Nat) ^ 8 = 256 from rfl, sar_nat (k := 16) (by omega) (by decide)]
  · rw [show (2 : Nat) ^ 8 = 256 from rfl, sar_nat (k := 8) (by omega) (by decide)]
  · rw [show (2 : Nat) ^ 8 = 256 from rfl, sar_nat (k := 0) (by omega) (by decide)]
theorem shr_by {x : Int32} {j : Nat} (hj : j < 4) : (x.toUInt32 >>> ((nI (24 - 8 * j)).toUInt32 &&& Int32.toUInt32 31)).toInt32 &&& 255 = byW x j := by
  rw [pk_and _ 8 (by decide), byW]
  rcases (show j = 0 ∨ j = 1 ∨ j = 2 ∨ j = 3 by omega) with rfl | rfl | rfl | rfl
  · rw [pk_ushr x (nI (24 - 8 * 0)) 24 (by decide)]
  · rw [pk_ushr x (nI (24 - 8 * 1)) 16 (by decide)]
  · rw [pk_ushr x (nI (24 - 8 * 2)) 8 (by decide)]
  · rw [pk_ushr x (nI (24 - 8 * 3)) 0 (by decide)]
theorem by_ix {x : Int32} {j : Nat} : ∃ b, b < 256 ∧ byW x j = nI b := ⟨_, Nat.mod_lt _ (by decide), rfl⟩
/-- the k-th of twelve bytes -/
def fdB (a b c : Int32) (k : Nat) : Int32 := byW (if k < 4 then a else if k < 8 then b else c) (k % 4)
def feedR (n : Nat) : Int32 := if n + 12 ≤ 96 then nI (n + 12) else fullC
section Fd
variable {Θ : Th} {d : Nat} {S : SS} {v : WV}
theorem shft_ix {k : Nat} (hk : k < 12) : (24 : Int32) - 8 * (nI k - nI k / 4 * 4) = nI (24 - 8 * (k % 4)) := by
  rw [show nI k - nI k / 4 * 4 = nI (k % 4) from pk_rem (d := 4) (by omega) (by omega) (by omega), show (8 : Int32) * nI (k % 4) = nI (8 * (k % 4)) from pk_mul 8 _]
  exact pk_sub (a := 24) (by omega)
theorem l_X12_feed {Q : Int32 → HP → Prop} {n : Nat} (h96 : n + 12 ≤ 96) {a b c : Int32} : ∀ (f : Nat) (S : SS) (x4 : Int32) (k : Nat), x4 = nI k → k + f = 12 → S 159 8 = nI n → (∀ j, j < k → S 166 (n + j) = fdB a b c j) → (∀ S', (∀ j, j < 12 → S' 166 (n + j) = fdB a b c j) → (∀ j, (j < n ∨ n + 12 ≤ j) → S' 166 j = S 166 j) → (∀ k, k ≠ 166 → S' k = S k) → ∀ x4, E Θ d 0 0 yX12_feed cX12_feed 6 (some .int) 0 0 183 (lay Θ S') 84 [(4, .int x4), (3, .int c), (2, .int b), (1, .int a), (0, .ref (tb Θ + 159))] [] (Qi Q)) → E Θ d 0 0 yX12_feed cX12_feed 6 (some .int) 0 0 183 (lay Θ S) 18 [(4, .int x4), (3, .int c), (2, .int b), (1, .int a), (0, .ref (tb Θ + 159))] [] (Qi Q) := by
  intro f
  induction f with
  | zero =>
    intro S x4 k hx4 hi hn hz K
    refine E_iload dX12_feed_18 rfl ?_
    refine E_bipush (v := 12) dX12_feed_20 (by decide) ?_
    refine E_icmp_ge dX12_feed_22 (fun _ => ?_) (fun c => absurd (by rw [hx4]; exact nI_le (a := 12) (by omega) (by omega)) c)
    exact E.loc (by exact ⟨rfl, rfl, rfl, rfl, rfl, trivial⟩) (K S (fun j hj => hz j (by omega)) (fun _ _ => rfl) (fun _ _ => rfl) x4)
  | succ f ih =>
    intro S x4 k hx4 hi hn hz K
    refine E_iload dX12_feed_18 rfl ?_
    rw [hx4]
    refine E_bipush (v := 12) dX12_feed_20 (by decide) ?_
    refine E_icmp_ge dX12_feed_22 (fun c => absurd c (ge_no (a := 12) (by omega) (by omega) rfl (by omega))) (fun _ => ?_)
    refine E_iload dX12_feed_25 rfl ?_
    refine E_ic (v := 4) dX12_feed_27 (by decide) ?_
    refine E_icmp_ge dX12_feed_28 (fun c28 => ?_) (fun c28 => ?_)
    · refine E_iload dX12_feed_35 rfl ?_
      refine E_bipush (v := 8) dX12_feed_37 (by decide) ?_
      refine E_icmp_ge dX12_feed_39 (fun c39 => ?_) (fun c39 => ?_)
      · refine E_iload_n dX12_feed_46 rfl ?_
        refine E_istore dX12_feed_47 (by decide) ?_
        refine E_aload_n dX12_feed_49 rfl ?_
        refine L_get fX12_29 dX12_feed_50 (by decide) sh_159 rfl ?_
        refine E_aload_n dX12_feed_53 rfl ?_
        refine L_get fX12_206 dX12_feed_54 (by decide) sh_159 rfl ?_
        refine E_iload dX12_feed_57 rfl ?_
        refine E_iadd dX12_feed_59 ?_
        rw [hn, nI_add]
        refine E_iload dX12_feed_60 rfl ?_
        refine E_bipush (v := 24) dX12_feed_62 (by decide) ?_
        refine E_bipush (v := 8) dX12_feed_64 (by decide) ?_
        refine E_iload dX12_feed_66 rfl ?_
        refine E_ic (v := 4) dX12_feed_68 (by decide) ?_
        refine E_irem dX12_feed_69 (by decide) ?_
        refine E_imul dX12_feed_70 ?_
        refine E_isub dX12_feed_71 ?_
        rw [shft_ix (show k < 12 by omega)]
        refine E_ishr dX12_feed_72 ?_
        refine E_sipush (v := 255) dX12_feed_73 (by decide) ?_
        refine E_iand dX12_feed_76 ?_
        rw [sar_by (by omega)]
        refine L_iast (j := n + k) dX12_feed_77 (by decide) sh_166 rfl (by omega) (by decide) ?_
        refine E_iinc (v := 1) dX12_feed_78 rfl (by decide) (by decide) ?_
        refine E_goto dX12_feed_81 ?_
        refine E.loc (by exact ⟨rfl, rfl, rfl, rfl, rfl, trivial⟩) (ih _ _ (k + 1) (by rw [nI_1]) (by omega) (by rw [wr_ne (by decide)]; exact hn) (fun j hj => ?_) (fun S9 a9 b9 c9 => K S9 a9 (fun j hj => by rw [b9 j hj, wr_at, pk_un (by omega)]) (fun k hk => (c9 k hk).trans (wr_ne hk))))
        rw [wr_at]
        by_cases e : j = k
        · rw [e, pk_us, fdB, if_neg (show ¬ k < 4 from fun h => absurd ((nI_leI (a := 4) (by omega) (by omega)).mp c28) (by omega)), if_neg (show ¬ k < 8 from fun h => absurd ((nI_leI (a := 8) (by omega) (by omega)).mp c39) (by omega))]
        · rw [pk_un (by omega)]
          exact hz j (by omega)
      · refine E_iload_n dX12_feed_42 rfl ?_
        refine E_goto dX12_feed_43 ?_
        refine E_istore dX12_feed_47 (by decide) ?_
        refine E_aload_n dX12_feed_49 rfl ?_
        refine L_get fX12_29 dX12_feed_50 (by decide) sh_159 rfl ?_
        refine E_aload_n dX12_feed_53 rfl ?_
        refine L_get fX12_206 dX12_feed_54 (by decide) sh_159 rfl ?_
        refine E_iload dX12_feed_57 rfl ?_
        refine E_iadd dX12_feed_59 ?_
        rw [hn, nI_add]
        refine E_iload dX12_feed_60 rfl ?_
        refine E_bipush (v := 24) dX12_feed_62 (by decide) ?_
        refine E_bipush (v := 8) dX12_feed_64 (by decide) ?_
        refine E_iload dX12_feed_66 rfl ?_
        refine E_ic (v := 4) dX12_feed_68 (by decide) ?_
        refine E_irem dX12_feed_69 (by decide) ?_
        refine E_imul dX12_feed_70 ?_
        refine E_isub dX12_feed_71 ?_
        rw [shft_ix (show k < 12 by omega)]
        refine E_ishr dX12_feed_72 ?_
        refine E_sipush (v := 255) dX12_feed_73 (by decide) ?_
        refine E_iand dX12_feed_76 ?_
        rw [sar_by (by omega)]
        refine L_iast (j := n + k) dX12_feed_77 (by decide) sh_166 rfl (by omega) (by decide) ?_
        refine E_iinc (v := 1) dX12_feed_78 rfl (by decide) (by decide) ?_
        refine E_goto dX12_feed_81 ?_
        refine E.loc (by exact ⟨rfl, rfl, rfl, rfl, rfl, trivial⟩) (ih _ _ (k + 1) (by rw [nI_1]) (by omega) (by rw [wr_ne (by decide)]; exact hn) (fun j hj => ?_) (fun S9 a9 b9 c9 => K S9 a9 (fun j hj => by rw [b9 j hj, wr_at, pk_un (by omega)]) (fun k hk => (c9 k hk).trans (wr_ne hk))))
        rw [wr_at]
        by_cases e : j = k
        · rw [e, pk_us, fdB, if_neg (show ¬ k < 4 from fun h => absurd ((nI_leI (a := 4) (by omega) (by omega)).mp c28) (by omega)), if_pos (show k < 8 from Nat.lt_of_not_le (fun h => c39 (nI_le (a := 8) h (by omega))))]
        · rw [pk_un (by omega)]
          exact hz j (by omega)
    · refine E_iload_n dX12_feed_31 rfl ?_
      refine E_goto dX12_feed_32 ?_
      refine E_istore dX12_feed_47 (by decide) ?_
      refine E_aload_n dX12_feed_49 rfl ?_
      refine L_get fX12_29 dX12_feed_50 (by decide) sh_159 rfl ?_
      refine E_aload_n dX12_feed_53 rfl ?_
      refine L_get fX12_206 dX12_feed_54 (by decide) sh_159 rfl ?_
      refine E_iload dX12_feed_57 rfl ?_
      refine E_iadd dX12_feed_59 ?_
      rw [hn, nI_add]
      refine E_iload dX12_feed_60 rfl ?_
      refine E_bipush (v := 24) dX12_feed_62 (by decide) ?_
      refine E_bipush (v := 8) dX12_feed_64 (by decide) ?_
      refine E_iload dX12_feed_66 rfl ?_
      refine E_ic (v := 4) dX12_feed_68 (by decide) ?_
      refine E_irem dX12_feed_69 (by decide) ?_
      refine E_imul dX12_feed_70 ?_
      refine E_isub dX12_feed_71 ?_
      rw [shft_ix (show k < 12 by omega)]
      refine E_ishr dX12_feed_72 ?_
      refine E_sipush (v := 255) dX12_feed_73 (by decide) ?_
      refine E_iand dX12_feed_76 ?_
      rw [sar_by (by omega)]
      refine L_iast (j := n + k) dX12_feed_77 (by decide) sh_166 rfl (by omega) (by decide) ?_
      refine E_iinc (v := 1) dX12_feed_78 rfl (by decide) (by decide) ?_
      refine E_goto dX12_feed_81 ?_
      refine E.loc (by exact ⟨rfl, rfl, rfl, rfl, rfl, trivial⟩) (ih _ _ (k + 1) (by rw [nI_1]) (by omega) (by rw [wr_ne (by decide)]; exact hn) (fun j hj => ?_) (fun S9 a9 b9 c9 => K S9 a9 (fun j hj => by rw [b9 j hj, wr_at, pk_un (by omega)]) (fun k hk => (c9 k hk).trans (wr_ne hk))))
      rw [wr_at]
      by_cases e : j = k
      · rw [e, pk_us, fdB, if_pos (show k < 4 from Nat.lt_of_not_le (fun h => c28 (nI_le (a := 4) h (by omega))))]
      · rw [pk_un (by omega)]
        exact hz j (by omega)
theorem s_X12_feed {Q : Int32 → HP → Prop} {n : Nat} (hn : S 159 8 = nI n) (hn96 : n ≤ 96) {a b c : Int32} (hq : ∀ S', S' 159 8 = nI (if n + 12 ≤ 96 then n + 12 else n) → (n + 12 ≤ 96 → ∀ j, j < 12 → S' 166 (n + j) = fdB a b c j) → (∀ j, j < n → S' 166 j = S 166 j) → (∀ j, j ≠ 8 → S' 159 j = S 159 j) → (∀ k, k ≠ 159 → k ≠ 166 → S' k = S k) → Q (feedR n) (lay Θ S')) : C Θ d 0 0 yX12_feed cX12_feed 6 (some .int) [.ref (tb Θ + 159), .int a, .int b, .int c] 183 (lay Θ S) (Qi Q) := by
  refine C_of rfl rfl (Nat.le_of_ble_eq_true rfl) ?_
  refine E_aload_n dX12_feed_0 rfl ?_
  refine L_get fX12_206 dX12_feed_1 (by decide) sh_159 rfl ?_
  refine E_bipush (v := 12) dX12_feed_4 (by decide) ?_
  refine E_iadd dX12_feed_6 ?_
  refine E_bipush (v := 96) dX12_feed_7 (by decide) ?_
  refine E_icmp_le dX12_feed_9 (fun c9 => ?_) (fun c9 => ?_)
  · refine E_ic (v := 0) dX12_feed_15 (by decide) ?_
    refine E_istore dX12_feed_16 (by decide) ?_
    have h12 : n + 12 ≤ 96 := by
      rw [hn, show nI n + 12 = nI (n + 12) from nI_add n 12] at c9
      exact (nI_leI (b := 96) (by omega) (by omega)).mp c9
    rw [feedR, if_pos h12] at hq
    simp only [if_pos h12] at hq
    refine E.loc (ls' := [(4, .int 0), (3, .int c), (2, .int b), (1, .int a), (0, .ref (tb Θ + 159))]) (by exact ⟨rfl, rfl, rfl, rfl, rfl, trivial⟩) (l_X12_feed h12 12 S 0 0 rfl (by omega) hn (fun j hj => absurd hj (by omega)) (fun S8 a8 b8 c8 x4 => ?_))
    refine E_aload_n dX12_feed_84 rfl ?_
    refine E_dup dX12_feed_85 rfl ?_
    refine L_get fX12_206 dX12_feed_86 (by decide) sh_159 rfl ?_
    refine E_bipush (v := 12) dX12_feed_89 (by decide) ?_
    refine E_iadd dX12_feed_91 ?_
    refine L_puti fX12_206 dX12_feed_92 (by decide) sh_159 (Nat.le_of_ble_eq_true rfl) rfl ?_
    refine E_aload_n dX12_feed_95 rfl ?_
    refine L_get fX12_206 dX12_feed_96 (by decide) sh_159 rfl ?_
    refine E_iret dX12_feed_99 rfl rfl ?_
    rw [wr_at, pk_us, c8 159 (by decide), hn, show nI n + 12 = nI (n + 12) from nI_add n 12]
    refine hq _ ?_ (fun _ j hj => ?_) (fun j hj => ?_) (fun j hj => ?_) (fun k h1 h2 => ?_)
    · rw [wr_at, pk_us]
    · rw [wr_ne (by decide)]; exact a8 j hj
    · rw [wr_ne (by decide)]; exact b8 j (by omega)
    · rw [wr_at, pk_un hj, c8 159 (by decide)]
    · rw [wr_ne h1, c8 k h2]
  · refine E_ldc dX12_feed_12 kX12_108 ?_
    refine E_iret dX12_feed_14 rfl rfl ?_
    have h12 : ¬ n + 12 ≤ 96 := fun h => c9 (by rw [hn, show nI n + 12 = nI (n + 12) from nI_add n 12]; exact nI_le (b := 96) h (by omega))
    rw [feedR, if_neg h12] at hq
    simp only [if_neg h12] at hq
    exact hq S hn (fun h => absurd h h12) (fun _ _ => rfl) (fun _ _ => rfl) (fun _ _ _ => rfl)
theorem m8_ix {j : Nat} (hj : j < 3) : nI (24 - 8 * j) + (-8) = nI (24 - 8 * (j + 1)) := by
  rw [← Int32.sub_eq_add_neg, show nI (24 - 8 * j) - 8 = nI (24 - 8 * j - 8) from pk_sub (b := 8) (by omega)]
  congr 1
theorem l_X7_append {Q : HP → Prop} {n : Nat} (h96 : n + 4 ≤ 96) {x : Int32} : ∀ (f : Nat) (S : SS) (x2 : Int32) (j : Nat), j + f = 4 → (j < 4 → x2 = nI (24 - 8 * j)) → (j = 4 → x2 < 0) → S 3 1 = nI (n + j) → (∀ i, i < j → S 4 (n + i) = byW x i) → (∀ S', S' 3 1 = nI (n + 4) → (∀ i, i < 4 → S' 4 (n + i) = byW x i) → (∀ i, i < n → S' 4 i = S 4 i) → (∀ i, i ≠ 1 → S' 3 i = S 3 i) → (∀ k, k ≠ 3 → k ≠ 4 → S' k = S k) → Q (lay Θ S')) → E Θ d 0 0 yX7_append cX7_append 3 none 0 0 183 (lay Θ S) 3 [(2, .int x2), (1, .int x), (0, .ref (tb Θ + 3))] [] (Qv Q) := by
  intro f
  induction f with
  | zero =>
    intro S x2 j hj h3 h4 hn hz hq
    refine E_iload_n dX7_append_3 rfl ?_
    refine E_if_lt dX7_append_4 (fun _ => ?_) (fun c => absurd (h4 (by omega)) c)
    refine E_vret dX7_append_51 rfl rfl ?_
    obtain rfl : j = 4 := by omega
    exact hq S hn (fun i hi => hz i (by omega)) (fun _ _ => rfl) (fun _ _ => rfl) (fun _ _ _ => rfl)
  | succ f ih =>
    intro S x2 j hj h3 h4 hn hz hq
    refine E_iload_n dX7_append_3 rfl ?_
    rw [h3 (by omega)]
    refine E_if_lt dX7_append_4 (fun c => absurd c (nI_pos (by omega))) (fun _ => ?_)
    refine E_aload_n dX7_append_7 rfl ?_
    refine L_get fX7_15 dX7_append_8 (by decide) sh_3 rfl ?_
    refine E_aload_n dX7_append_11 rfl ?_
    refine L_get fX7_9 dX7_append_12 (by decide) sh_3 rfl ?_
    refine L_alen dX7_append_15 (by decide) sh_4 rfl ?_
    refine E_icmp_ge dX7_append_16 (fun c => absurd c (by rw [hn]; exact nI_ge (b := 96) (by omega) (by omega))) (fun _ => ?_)
    refine E_aload_n dX7_append_19 rfl ?_
    refine L_get fX7_9 dX7_append_20 (by decide) sh_3 rfl ?_
    refine E_aload_n dX7_append_23 rfl ?_
    refine L_get fX7_15 dX7_append_24 (by decide) sh_3 rfl ?_
    refine E_iload_n dX7_append_27 rfl ?_
    refine E_iload_n dX7_append_28 rfl ?_
    refine E_iushr dX7_append_29 ?_
    refine E_sipush (v := 255) dX7_append_30 (by decide) ?_
    refine E_iand dX7_append_33 ?_
    rw [shr_by (show j < 4 by omega)]
    refine L_iast (j := n + j) dX7_append_34 (by decide) sh_4 hn (by omega) (by decide) ?_
    refine E_aload_n dX7_append_35 rfl ?_
    refine E_dup dX7_append_36 rfl ?_
    refine L_get fX7_15 dX7_append_37 (by decide) sh_3 rfl ?_
    refine E_ic (v := 1) dX7_append_40 (by decide) ?_
    refine E_iadd dX7_append_41 ?_
    refine L_puti fX7_15 dX7_append_42 (by decide) sh_3 (Nat.le_of_ble_eq_true rfl) rfl ?_
    refine E_iinc (v := (-8)) dX7_append_45 rfl (by decide) (by decide) ?_
    refine E_goto dX7_append_48 ?_
    refine E.loc (by exact ⟨rfl, rfl, rfl, trivial⟩) (ih _ _ (j + 1) (by omega) ?_ ?_ ?_ (fun i hi => ?_) (fun S9 a9 b9 c9 e9 f9 => hq S9 a9 b9 (fun i hi => ?_) (fun i hi => ?_) (fun k h1 h2 => ?_)))
    · intro h
      exact m8_ix (by omega)
    · intro h
      rw [show j = 3 by omega]
      decide
    · rw [wr_at, pk_us, wr_ne (by decide), hn, nI_1]
      rfl
    · rw [wr_ne (by decide), wr_at]
      by_cases e : i = j
      · rw [e, pk_us]
      · rw [pk_un (by omega)]
        exact hz i (by omega)
    · rw [c9 i hi, wr_ne (by decide), wr_at, pk_un (by omega)]
    · rw [e9 i hi, wr_at, pk_un hi, wr_ne (by decide)]
    · rw [f9 k h1 h2, wr_ne h1, wr_ne h2]
theorem s_X7_append {Q : HP → Prop} {n : Nat} (h96 : n + 4 ≤ 96) (hn : S 3 1 = nI n) {x : Int32} (hq : ∀ S', S' 3 1 = nI (n + 4) → (∀ i, i < 4 → S' 4 (n + i) = byW x i) → (∀ i, i < n → S' 4 i = S 4 i) → (∀ i, i ≠ 1 → S' 3 i = S 3 i) → (∀ k, k ≠ 3 → k ≠ 4 → S' k = S k) → Q (lay Θ S')) : C Θ d 0 0 yX7_append cX7_append 3 none [.ref (tb Θ + 3), .int x] 183 (lay Θ S) (Qv Q) := by
  refine C_of rfl rfl (Nat.le_of_ble_eq_true rfl) ?_
  refine E_bipush (v := 24) dX7_append_0 (by decide) ?_
  refine E_istore_n dX7_append_2 (by decide) ?_
  exact E.loc (by exact ⟨rfl, rfl, rfl, trivial⟩) (l_X7_append h96 4 S 24 0 (by omega) (fun _ => rfl) (fun h => absurd h (by decide)) hn (fun i hi => absurd hi (by omega)) hq)
theorem s_X11_feed {Q : Int32 → HP → Prop} {n : Nat} (hn : S 3 1 = nI n) (hn96 : n ≤ 96) {a b c : Int32} (hq : ∀ S', S' 3 1 = nI (if n + 12 ≤ 96 then n + 12 else n) → (n + 12 ≤ 96 → ∀ j, j < 12 → S' 4 (n + j) = fdB a b c j) → (∀ j, j < n → S' 4 j = S 4 j) → (∀ j, j ≠ 1 → S' 3 j = S 3 j) → (∀ k, k ≠ 3 → k ≠ 4 → S' k = S k) → Q (feedR n) (lay Θ S')) : C Θ (d + 1) 0 0 yX11_feed cX11_feed 4 (some .int) [.ref (tb Θ + 0), .int a, .int b, .int c] 183 (lay Θ S) (Qi Q) := by
  refine C_of rfl rfl (Nat.le_of_ble_eq_true rfl) ?_
  refine E_aload_n dX11_feed_0 rfl ?_
  refine L_get fX11_24 dX11_feed_1 (by decide) sh_0 rfl ?_
  refine L_get fX11_255 dX11_feed_4 (by decide) sh_3 rfl ?_
  refine E_bipush (v := 12) dX11_feed_7 (by decide) ?_
  refine E_iadd dX11_feed_9 ?_
  refine E_bipush (v := 96) dX11_feed_10 (by decide) ?_
  refine E_icmp_le dX11_feed_12 (fun c12 => ?_) (fun c12 => ?_)
  · have h12 : n + 12 ≤ 96 := by
      rw [hn, show nI n + 12 = nI (n + 12) from nI_add n 12] at c12
      exact (nI_leI (b := 96) (by omega) (by omega)).mp c12
    refine E_aload_n dX11_feed_18 rfl ?_
    refine L_get fX11_24 dX11_feed_19 (by decide) sh_0 rfl ?_
    refine E_iload_n dX11_feed_22 rfl ?_
    refine E_V1v vX11_258_7 dX11_feed_23 (Nat.le_of_ble_eq_true rfl) (by decide) (sh_3 _) (s_X7_append (n := n) (by omega) hn (fun S23 n23 b23 o23 g23 f23 => ?_))
    refine E_aload_n dX11_feed_26 rfl ?_
    refine L_get fX11_24 dX11_feed_27 (by decide) sh_0 rfl ?_
    refine E_iload_n dX11_feed_30 rfl ?_
    refine E_V1v vX11_258_7 dX11_feed_31 (Nat.le_of_ble_eq_true rfl) (by decide) (sh_3 _) (s_X7_append (n := n + 4) (by omega) n23 (fun S31 n31 b31 o31 g31 f31 => ?_))
    refine E_aload_n dX11_feed_34 rfl ?_
    refine L_get fX11_24 dX11_feed_35 (by decide) sh_0 rfl ?_
    refine E_iload_n dX11_feed_38 rfl ?_
    refine E_V1v vX11_258_7 dX11_feed_39 (Nat.le_of_ble_eq_true rfl) (by decide) (sh_3 _) (s_X7_append (n := n + 4 + 4) (by omega) n31 (fun S39 n39 b39 o39 g39 f39 => ?_))
    refine E_aload_n dX11_feed_42 rfl ?_
    refine L_get fX11_24 dX11_feed_43 (by decide) sh_0 rfl ?_
    refine L_get fX11_255 dX11_feed_46 (by decide) sh_3 rfl ?_
    refine E_iret dX11_feed_49 rfl rfl ?_
    rw [feedR, if_pos h12] at hq
    simp only [if_pos h12] at hq
    rw [n39, show n + 4 + 4 + 4 = n + 12 by omega]
    refine hq S39 (by rw [n39, show n + 4 + 4 + 4 = n + 12 by omega]) (fun _ j hj => ?_) (fun j hj => ?_) (fun j hj => ?_) (fun k h1 h2 => ?_)
    · rw [fdB]
      by_cases j4 : j < 4
      · rw [if_pos j4, o39 _ (by omega), o31 _ (by omega), b23 j j4, show j % 4 = j by omega]
      · rw [if_neg j4]
        by_cases j8 : j < 8
        · rw [if_pos j8, o39 _ (by omega), show n + j = n + 4 + (j - 4) by omega, b31 (j - 4) (by omega), show j % 4 = j - 4 by omega]
        · rw [if_neg j8, show n + j = n + 4 + 4 + (j - 8) by omega, b39 (j - 8) (by omega), show j % 4 = j - 8 by omega]
    · rw [o39 j (by omega), o31 j (by omega), o23 j hj]
    · rw [g39 j hj, g31 j hj, g23 j hj]
    · rw [f39 k h1 h2, f31 k h1 h2, f23 k h1 h2]
  · refine E_ldc dX11_feed_15 kX11_110 ?_
    refine E_iret dX11_feed_17 rfl rfl ?_
    have h12 : ¬ n + 12 ≤ 96 := fun h => c12 (by rw [hn, show nI n + 12 = nI (n + 12) from nI_add n 12]; exact nI_le (b := 96) h (by omega))
    rw [feedR, if_neg h12] at hq
    simp only [if_neg h12] at hq
    exact hq S hn (fun h => absurd h h12) (fun _ _ => rfl) (fun _ _ => rfl) (fun _ _ _ => rfl)
end Fd
