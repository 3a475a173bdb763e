/-! the small questions of both sides -/
theorem i_nlt {a b : Int32} (h : ¬ a < b) : b ≤ a := by simpa using h
theorem i_nle {a b : Int32} (h : ¬ a ≤ b) : b < a := by simpa using h
theorem i_lt {a b : Int32} (h : b ≤ a) : ¬ a < b := by simpa using h
theorem i_le {a b : Int32} (h : b < a) : ¬ a ≤ b := by simpa using h
/-- v is one of the first n numbers -/
def isIx (v : Int32) (n : Nat) : Prop := ∃ c, c < n ∧ v = nI c
theorem isIx_rng {v M : Int32} {n : Nat} (hM : nI (n + 1) = M + 1) (hM2 : M = nI n) (hn : n < 2000) (h0 : 0 ≤ v) (h1 : v ≤ M) : isIx v (n + 1) := by
  obtain ⟨j, hj, rfl⟩ := nI_of (i_lt h0)
  rw [hM2] at h1
  exact ⟨j, by have := (nI_leI hj (by omega)).mp h1; omega, rfl⟩
theorem isIx_le {v : Int32} {n : Nat} (hn : n < 2000) (h0 : 0 ≤ v) (h1 : v ≤ nI n) : isIx v (n + 1) := by
  obtain ⟨j, hj, rfl⟩ := nI_of (i_lt h0)
  exact ⟨j, by have := (nI_leI hj (by omega)).mp h1; omega, rfl⟩
theorem isIx_back {v : Int32} {n : Nat} (hn : n < 2000) (h : isIx v (n + 1)) : 0 ≤ v ∧ v ≤ nI n := by
  obtain ⟨c, hc, rfl⟩ := h
  exact ⟨nI_pos' (by omega), nI_le (by omega) (by omega)⟩
theorem ix_some {v : Int32} {n : Nat} (hn : n < 2000) (h : isIx v n) : ∃ i, i < n ∧ v = nI i ∧ ix v n = some i := by
  obtain ⟨i, hi, rfl⟩ := h
  exact ⟨i, hi, rfl, ix_nI hi (by omega)⟩
theorem ix_none {v : Int32} {n : Nat} (hn : n < 2000) (h : ¬ isIx v n) : ix v n = none := ix_no (by omega) (fun i hi e => h ⟨i, hi, e⟩)
section Small
variable {Θ : Th} {d n : Nat} {G : HP} {S : SS} {Q : Int32 → HP → Prop}
theorem s_X12_in {v lo hi : Int32} (ht : lo ≤ v → v ≤ hi → Q 1 G) (hf : ¬ (lo ≤ v ∧ v ≤ hi) → Q 0 G) : C Θ d 0 0 yX12_in cX12_in 3 (some .boolean) [.int v, .int lo, .int hi] n G (Qi Q) := by
  refine C_of rfl rfl (Nat.le_of_ble_eq_true rfl) ?_
  refine E_iload_n dX12_in_0 rfl ?_
  refine E_iload_n dX12_in_1 rfl ?_
  refine E_icmp_lt dX12_in_2 (fun c2 => ?_) (fun c2 => ?_)
  · refine E_ic (v := 0) dX12_in_14 (by decide) ?_
    refine E_iret dX12_in_15 rfl rfl ?_
    exact hf (fun h => i_lt h.1 c2)
  · refine E_iload_n dX12_in_5 rfl ?_
    refine E_iload_n dX12_in_6 rfl ?_
    refine E_icmp_gt dX12_in_7 (fun c7 => ?_) (fun c7 => ?_)
    · refine E_ic (v := 0) dX12_in_14 (by decide) ?_
      refine E_iret dX12_in_15 rfl rfl ?_
      exact hf (fun h => i_lt h.2 c7)
    · refine E_ic (v := 1) dX12_in_10 (by decide) ?_
      refine E_goto dX12_in_11 ?_
      refine E_iret dX12_in_15 rfl rfl ?_
      exact ht (i_nlt c2) (i_nlt c7)
theorem s_X11_within {v lo hi : Int32} (ht : lo ≤ v → v ≤ hi → Q 1 G) (hf : ¬ (lo ≤ v ∧ v ≤ hi) → Q 0 G) : C Θ d 0 0 yX11_within cX11_within 3 (some .boolean) [.int v, .int lo, .int hi] n G (Qi Q) := by
  refine C_of rfl rfl (Nat.le_of_ble_eq_true rfl) ?_
  refine E_iload_n dX11_within_0 rfl ?_
  refine E_iload_n dX11_within_1 rfl ?_
  refine E_icmp_lt dX11_within_2 (fun c2 => ?_) (fun c2 => ?_)
  · refine E_ic (v := 0) dX11_within_14 (by decide) ?_
    refine E_iret dX11_within_15 rfl rfl ?_
    exact hf (fun h => i_lt h.1 c2)
  · refine E_iload_n dX11_within_5 rfl ?_
    refine E_iload_n dX11_within_6 rfl ?_
    refine E_icmp_gt dX11_within_7 (fun c7 => ?_) (fun c7 => ?_)
    · refine E_ic (v := 0) dX11_within_14 (by decide) ?_
      refine E_iret dX11_within_15 rfl rfl ?_
      exact hf (fun h => i_lt h.2 c7)
    · refine E_ic (v := 1) dX11_within_10 (by decide) ?_
      refine E_goto dX11_within_11 ?_
      refine E_iret dX11_within_15 rfl rfl ?_
      exact ht (i_nlt c2) (i_nlt c7)
def heldF (v : Int32) : Int32 := if 0 < (if 99 < v then 99 else v) then (if 99 < v then 99 else v) else 0
theorem s_X11_held {v : Int32} (hq : Q (heldF v) G) : C Θ (d + 1) 0 0 yX11_held cX11_held 1 (some .int) [.int v] n G (Qi Q) := by
  refine C_of rfl rfl (Nat.le_of_ble_eq_true rfl) ?_
  refine E_ic (v := 0) dX11_held_0 (by decide) ?_
  refine E_iload_n dX11_held_1 rfl ?_
  refine E_bipush (v := 99) dX11_held_2 (by decide) ?_
  refine E_mmin mX11_160 w_mins w_mi w_minc dX11_held_4 (Nat.le_of_ble_eq_true rfl) ?_
  refine E_mmax mX11_333 w_maxs w_mi w_maxc dX11_held_7 (Nat.le_of_ble_eq_true rfl) ?_
  refine E_iret dX11_held_10 rfl rfl ?_
  exact hq
def clampF (v lo hi : Int32) : Int32 := if v < lo then lo else if hi < v then hi else v
theorem s_X12_within {v lo hi : Int32} (hq : Q (clampF v lo hi) G) : C Θ d 0 0 yX12_within cX12_within 3 (some .int) [.int v, .int lo, .int hi] n G (Qi Q) := by
  refine C_of rfl rfl (Nat.le_of_ble_eq_true rfl) ?_
  refine E_iload_n dX12_within_0 rfl ?_
  refine E_iload_n dX12_within_1 rfl ?_
  refine E_icmp_ge dX12_within_2 (fun c2 => ?_) (fun c2 => ?_)
  · refine E_iload_n dX12_within_9 rfl ?_
    refine E_iload_n dX12_within_10 rfl ?_
    refine E_icmp_le dX12_within_11 (fun c11 => ?_) (fun c11 => ?_)
    · refine E_iload_n dX12_within_18 rfl ?_
      refine E_iret dX12_within_19 rfl rfl ?_
      simpa [clampF, c2, (i_lt c2), c11, (i_lt c11)] using hq
    · refine E_iload_n dX12_within_14 rfl ?_
      refine E_goto dX12_within_15 ?_
      refine E_iret dX12_within_19 rfl rfl ?_
      simpa [clampF, c2, (i_lt c2), c11, (i_nle c11)] using hq
  · refine E_iload_n dX12_within_5 rfl ?_
    refine E_goto dX12_within_6 ?_
    refine E_iret dX12_within_19 rfl rfl ?_
    simpa [clampF, c2, (i_nle c2)] using hq
theorem s_X11_isKind {v : Int32} (ht : isIx v 6 → Q 1 G) (hf : ¬ isIx v 6 → Q 0 G) : C Θ (d + 1) 0 0 yX11_isKind cX11_isKind 1 (some .boolean) [.int v] n G (Qi Q) := by
  refine C_of rfl rfl (Nat.le_of_ble_eq_true rfl) ?_
  refine E_iload_n dX11_isKind_0 rfl ?_
  refine E_ic (v := 0) dX11_isKind_1 (by decide) ?_
  refine E_ic (v := 5) dX11_isKind_2 (by decide) ?_
  refine E_S3i sX11_145 dX11_isKind_3 (Nat.le_of_ble_eq_true rfl) (s_X11_within (fun h0 h1 => ?_) (fun h => ?_))
  · refine E_iret dX11_isKind_6 rfl rfl ?_
    exact ht (isIx_le (n := 5) (by decide) h0 h1)
  · refine E_iret dX11_isKind_6 rfl rfl ?_
    exact hf (fun hh => h (isIx_back (n := 5) (by decide) hh))
theorem s_X11_isBank {v : Int32} (ht : isIx v 2 → Q 1 G) (hf : ¬ isIx v 2 → Q 0 G) : C Θ (d + 1) 0 0 yX11_isBank cX11_isBank 1 (some .boolean) [.int v] n G (Qi Q) := by
  refine C_of rfl rfl (Nat.le_of_ble_eq_true rfl) ?_
  refine E_iload_n dX11_isBank_0 rfl ?_
  refine E_ic (v := 0) dX11_isBank_1 (by decide) ?_
  refine E_ic (v := 1) dX11_isBank_2 (by decide) ?_
  refine E_S3i sX11_145 dX11_isBank_3 (Nat.le_of_ble_eq_true rfl) (s_X11_within (fun h0 h1 => ?_) (fun h => ?_))
  · refine E_iret dX11_isBank_6 rfl rfl ?_
    exact ht (isIx_le (n := 1) (by decide) h0 h1)
  · refine E_iret dX11_isBank_6 rfl rfl ?_
    exact hf (fun hh => h (isIx_back (n := 1) (by decide) hh))
theorem s_X11_isMatter {v : Int32} (ht : isIx v 6 → Q 1 G) (hf : ¬ isIx v 6 → Q 0 G) : C Θ (d + 1) 0 0 yX11_isMatter cX11_isMatter 1 (some .boolean) [.int v] n G (Qi Q) := by
  refine C_of rfl rfl (Nat.le_of_ble_eq_true rfl) ?_
  refine E_iload_n dX11_isMatter_0 rfl ?_
  refine E_ic (v := 0) dX11_isMatter_1 (by decide) ?_
  refine E_ic (v := 5) dX11_isMatter_2 (by decide) ?_
  refine E_S3i sX11_145 dX11_isMatter_3 (Nat.le_of_ble_eq_true rfl) (s_X11_within (fun h0 h1 => ?_) (fun h => ?_))
  · refine E_iret dX11_isMatter_6 rfl rfl ?_
    exact ht (isIx_le (n := 5) (by decide) h0 h1)
  · refine E_iret dX11_isMatter_6 rfl rfl ?_
    exact hf (fun hh => h (isIx_back (n := 5) (by decide) hh))
theorem s_X11_isSheet {v : Int32} (ht : isIx v 4 → Q 1 G) (hf : ¬ isIx v 4 → Q 0 G) : C Θ (d + 1) 0 0 yX11_isSheet cX11_isSheet 1 (some .boolean) [.int v] n G (Qi Q) := by
  refine C_of rfl rfl (Nat.le_of_ble_eq_true rfl) ?_
  refine E_iload_n dX11_isSheet_0 rfl ?_
  refine E_ic (v := 0) dX11_isSheet_1 (by decide) ?_
  refine E_ic (v := 3) dX11_isSheet_2 (by decide) ?_
  refine E_S3i sX11_145 dX11_isSheet_3 (Nat.le_of_ble_eq_true rfl) (s_X11_within (fun h0 h1 => ?_) (fun h => ?_))
  · refine E_iret dX11_isSheet_6 rfl rfl ?_
    exact ht (isIx_le (n := 3) (by decide) h0 h1)
  · refine E_iret dX11_isSheet_6 rfl rfl ?_
    exact hf (fun hh => h (isIx_back (n := 3) (by decide) hh))
theorem s_X11_isSlot {v : Int32} (ht : isIx v 5 → Q 1 G) (hf : ¬ isIx v 5 → Q 0 G) : C Θ (d + 1) 0 0 yX11_isSlot cX11_isSlot 1 (some .boolean) [.int v] n G (Qi Q) := by
  refine C_of rfl rfl (Nat.le_of_ble_eq_true rfl) ?_
  refine E_iload_n dX11_isSlot_0 rfl ?_
  refine E_ic (v := 0) dX11_isSlot_1 (by decide) ?_
  refine E_ic (v := 4) dX11_isSlot_2 (by decide) ?_
  refine E_S3i sX11_145 dX11_isSlot_3 (Nat.le_of_ble_eq_true rfl) (s_X11_within (fun h0 h1 => ?_) (fun h => ?_))
  · refine E_iret dX11_isSlot_6 rfl rfl ?_
    exact ht (isIx_le (n := 4) (by decide) h0 h1)
  · refine E_iret dX11_isSlot_6 rfl rfl ?_
    exact hf (fun hh => h (isIx_back (n := 4) (by decide) hh))
theorem s_X12_isMatter {v : Int32} (ht : isIx v 6 → Q 1 G) (hf : ¬ isIx v 6 → Q 0 G) : C Θ (d + 1) 0 0 yX12_isMatter cX12_isMatter 1 (some .boolean) [.int v] n G (Qi Q) := by
  refine C_of rfl rfl (Nat.le_of_ble_eq_true rfl) ?_
  refine E_iload_n dX12_isMatter_0 rfl ?_
  refine E_ic (v := 0) dX12_isMatter_1 (by decide) ?_
  refine E_ic (v := 5) dX12_isMatter_2 (by decide) ?_
  refine E_S3i sX12_81 dX12_isMatter_3 (Nat.le_of_ble_eq_true rfl) (s_X12_in (fun h0 h1 => ?_) (fun h => ?_))
  · refine E_iret dX12_isMatter_6 rfl rfl ?_
    exact ht (isIx_le (n := 5) (by decide) h0 h1)
  · refine E_iret dX12_isMatter_6 rfl rfl ?_
    exact hf (fun hh => h (isIx_back (n := 5) (by decide) hh))
theorem s_X12_isSheet {v : Int32} (ht : isIx v 4 → Q 1 G) (hf : ¬ isIx v 4 → Q 0 G) : C Θ (d + 1) 0 0 yX12_isSheet cX12_isSheet 1 (some .boolean) [.int v] n G (Qi Q) := by
  refine C_of rfl rfl (Nat.le_of_ble_eq_true rfl) ?_
  refine E_iload_n dX12_isSheet_0 rfl ?_
  refine E_ic (v := 0) dX12_isSheet_1 (by decide) ?_
  refine E_ic (v := 3) dX12_isSheet_2 (by decide) ?_
  refine E_S3i sX12_81 dX12_isSheet_3 (Nat.le_of_ble_eq_true rfl) (s_X12_in (fun h0 h1 => ?_) (fun h => ?_))
  · refine E_iret dX12_isSheet_6 rfl rfl ?_
    exact ht (isIx_le (n := 3) (by decide) h0 h1)
  · refine E_iret dX12_isSheet_6 rfl rfl ?_
    exact hf (fun hh => h (isIx_back (n := 3) (by decide) hh))
theorem s_X12_isSlot {v : Int32} (ht : isIx v 5 → Q 1 G) (hf : ¬ isIx v 5 → Q 0 G) : C Θ (d + 1) 0 0 yX12_isSlot cX12_isSlot 1 (some .boolean) [.int v] n G (Qi Q) := by
  refine C_of rfl rfl (Nat.le_of_ble_eq_true rfl) ?_
  refine E_iload_n dX12_isSlot_0 rfl ?_
  refine E_ic (v := 0) dX12_isSlot_1 (by decide) ?_
  refine E_ic (v := 4) dX12_isSlot_2 (by decide) ?_
  refine E_S3i sX12_81 dX12_isSlot_3 (Nat.le_of_ble_eq_true rfl) (s_X12_in (fun h0 h1 => ?_) (fun h => ?_))
  · refine E_iret dX12_isSlot_6 rfl rfl ?_
    exact ht (isIx_le (n := 4) (by decide) h0 h1)
  · refine E_iret dX12_isSlot_6 rfl rfl ?_
    exact hf (fun hh => h (isIx_back (n := 4) (by decide) hh))
theorem s_X11_isOne {v : Int32} {m : Nat} (hm : S 20 1 = nI m) (hm9 : m ≤ 9) (ht : isIx v m → Q 1 (lay Θ S)) (hf : ¬ isIx v m → Q 0 (lay Θ S)) : C Θ d 0 0 yX11_isOne cX11_isOne 2 (some .boolean) [.ref (tb Θ + 0), .int v] 183 (lay Θ S) (Qi Q) := by
  refine C_of rfl rfl (Nat.le_of_ble_eq_true rfl) ?_
  refine E_iload_n dX11_isOne_0 rfl ?_
  refine E_if_lt dX11_isOne_1 (fun c1 => ?_) (fun c1 => ?_)
  · refine E_ic (v := 0) dX11_isOne_19 (by decide) ?_
    refine E_iret dX11_isOne_20 rfl rfl ?_
    exact hf (fun ⟨i, hi, e⟩ => ix_neg (n := m) c1 (by omega) e)
  · refine E_iload_n dX11_isOne_4 rfl ?_
    refine E_aload_n dX11_isOne_5 rfl ?_
    refine L_get fX11_83 dX11_isOne_6 (by decide) sh_0 rfl ?_
    refine L_get fX11_106 dX11_isOne_9 (by have := (isW20).lt; omega) (sh_W isW20) rfl ?_
    refine E_icmp_ge dX11_isOne_12 (fun c12 => ?_) (fun c12 => ?_)
    · refine E_ic (v := 0) dX11_isOne_19 (by decide) ?_
      refine E_iret dX11_isOne_20 rfl rfl ?_
      rw [hm] at c12
      exact hf (fun ⟨i, hi, e⟩ => ix_big c12 hi (by omega) e)
    · refine E_ic (v := 1) dX11_isOne_15 (by decide) ?_
      refine E_goto dX11_isOne_16 ?_
      refine E_iret dX11_isOne_20 rfl rfl ?_
      rw [hm] at c12
      exact ht (ix_of c1 (i_nle c12) (by omega))
theorem m1_le {v : Int32} {m : Nat} (hm9 : m ≤ 9) (h0 : 0 ≤ v) (h1 : v ≤ nI m - 1) : isIx v m := by
  obtain ⟨j, hj, rfl⟩ := nI_of (i_lt h0)
  rcases Nat.eq_zero_or_pos m with rfl | hp
  · exact absurd h1 (fun h => absurd (Int32.le_trans h0 h) (by decide))
  · obtain ⟨q, rfl⟩ : ∃ q, m = q + 1 := ⟨m - 1, by omega⟩
    rw [nI_pred] at h1
    exact ⟨j, by have := (nI_leI hj (by omega)).mp h1; omega, rfl⟩
theorem m1_back {v : Int32} {m : Nat} (hm9 : m ≤ 9) (h : isIx v m) : 0 ≤ v ∧ v ≤ nI m - 1 := by
  obtain ⟨c, hc, rfl⟩ := h
  obtain ⟨q, rfl⟩ : ∃ q, m = q + 1 := ⟨m - 1, by omega⟩
  rw [nI_pred]
  exact ⟨nI_pos' (by omega), nI_le (by omega) (by omega)⟩
theorem s_X12_isOne {v : Int32} {m : Nat} (hm : S 160 1 = nI m) (hm9 : m ≤ 9) (ht : isIx v m → Q 1 (lay Θ S)) (hf : ¬ isIx v m → Q 0 (lay Θ S)) : C Θ (d + 1) 0 0 yX12_isOne cX12_isOne 2 (some .boolean) [.ref (tb Θ + 159), .int v] 183 (lay Θ S) (Qi Q) := by
  refine C_of rfl rfl (Nat.le_of_ble_eq_true rfl) ?_
  refine E_iload_n dX12_isOne_0 rfl ?_
  refine E_ic (v := 0) dX12_isOne_1 (by decide) ?_
  refine E_aload_n dX12_isOne_2 rfl ?_
  refine L_get fX12_9 dX12_isOne_3 (by decide) sh_159 rfl ?_
  refine E_ic (v := 1) dX12_isOne_6 (by decide) ?_
  refine L_iald (j := 1) dX12_isOne_7 (by decide) sh_160 rfl (by decide) (by decide) ?_
  refine E_ic (v := 1) dX12_isOne_8 (by decide) ?_
  refine E_isub dX12_isOne_9 ?_
  refine E_S3i sX12_81 dX12_isOne_10 (Nat.le_of_ble_eq_true rfl) (s_X12_in (fun h0 h1 => ?_) (fun h => ?_))
  · refine E_iret dX12_isOne_13 rfl rfl ?_
    rw [hm] at h1
    exact ht (m1_le hm9 h0 h1)
  · refine E_iret dX12_isOne_13 rfl rfl ?_
    rw [hm] at h
    exact hf (fun hh => h (m1_back hm9 hh))
theorem s_X11_areTwo {v u : Int32} {m : Nat} (hm : S 20 1 = nI m) (hm9 : m ≤ 9) (ht : isIx v m → isIx u m → ¬ v = u → Q 1 (lay Θ S)) (hf : ¬ (isIx v m ∧ isIx u m ∧ ¬ v = u) → Q 0 (lay Θ S)) : C Θ (d + 1) 0 0 yX11_areTwo cX11_areTwo 3 (some .boolean) [.ref (tb Θ + 0), .int v, .int u] 183 (lay Θ S) (Qi Q) := by
  refine C_of rfl rfl (Nat.le_of_ble_eq_true rfl) ?_
  refine E_aload_n dX11_areTwo_0 rfl ?_
  refine E_iload_n dX11_areTwo_1 rfl ?_
  refine E_V1i vX11_118_11 dX11_areTwo_2 (Nat.le_of_ble_eq_true rfl) (by decide) (sh_0 _) (s_X11_isOne hm hm9 (fun h1 => ?_) (fun h1 => ?_))
  · refine E_if_eq dX11_areTwo_5 (fun c => absurd c (by decide)) (fun _ => ?_)
    refine E_aload_n dX11_areTwo_8 rfl ?_
    refine E_iload_n dX11_areTwo_9 rfl ?_
    refine E_V1i vX11_118_11 dX11_areTwo_10 (Nat.le_of_ble_eq_true rfl) (by decide) (sh_0 _) (s_X11_isOne hm hm9 (fun h2 => ?_) (fun h2 => ?_))
    · refine E_if_eq dX11_areTwo_13 (fun c => absurd c (by decide)) (fun _ => ?_)
      refine E_iload_n dX11_areTwo_16 rfl ?_
      refine E_iload_n dX11_areTwo_17 rfl ?_
      refine E_icmp_eq dX11_areTwo_18 (fun c18 => ?_) (fun c18 => ?_)
      · refine E_ic (v := 0) dX11_areTwo_25 (by decide) ?_
        refine E_iret dX11_areTwo_26 rfl rfl ?_
        exact hf (fun h => h.2.2 c18)
      · refine E_ic (v := 1) dX11_areTwo_21 (by decide) ?_
        refine E_goto dX11_areTwo_22 ?_
        refine E_iret dX11_areTwo_26 rfl rfl ?_
        exact ht h1 h2 c18
    · refine E_if_eq dX11_areTwo_13 (fun _ => ?_) (fun c => absurd (by decide) c)
      refine E_ic (v := 0) dX11_areTwo_25 (by decide) ?_
      refine E_iret dX11_areTwo_26 rfl rfl ?_
      exact hf (fun h => h2 h.2.1)
  · refine E_if_eq dX11_areTwo_5 (fun _ => ?_) (fun c => absurd (by decide) c)
    refine E_ic (v := 0) dX11_areTwo_25 (by decide) ?_
    refine E_iret dX11_areTwo_26 rfl rfl ?_
    exact hf (fun h => h1 h.1)
theorem s_X12_areTwo {v u : Int32} {m : Nat} (hm : S 160 1 = nI m) (hm9 : m ≤ 9) (ht : isIx v m → isIx u m → ¬ v = u → Q 1 (lay Θ S)) (hf : ¬ (isIx v m ∧ isIx u m ∧ ¬ v = u) → Q 0 (lay Θ S)) : C Θ (d + 2) 0 0 yX12_areTwo cX12_areTwo 3 (some .boolean) [.ref (tb Θ + 159), .int v, .int u] 183 (lay Θ S) (Qi Q) := by
  refine C_of rfl rfl (Nat.le_of_ble_eq_true rfl) ?_
  refine E_aload_n dX12_areTwo_0 rfl ?_
  refine E_iload_n dX12_areTwo_1 rfl ?_
  refine E_V1i vX12_112_12 dX12_areTwo_2 (Nat.le_of_ble_eq_true rfl) (by decide) (sh_159 _) (s_X12_isOne hm hm9 (fun h1 => ?_) (fun h1 => ?_))
  · refine E_if_eq dX12_areTwo_5 (fun c => absurd c (by decide)) (fun _ => ?_)
    refine E_aload_n dX12_areTwo_8 rfl ?_
    refine E_iload_n dX12_areTwo_9 rfl ?_
    refine E_V1i vX12_112_12 dX12_areTwo_10 (Nat.le_of_ble_eq_true rfl) (by decide) (sh_159 _) (s_X12_isOne hm hm9 (fun h2 => ?_) (fun h2 => ?_))
    · refine E_if_eq dX12_areTwo_13 (fun c => absurd c (by decide)) (fun _ => ?_)
      refine E_iload_n dX12_areTwo_16 rfl ?_
      refine E_iload_n dX12_areTwo_17 rfl ?_
      refine E_icmp_eq dX12_areTwo_18 (fun c18 => ?_) (fun c18 => ?_)
      · refine E_ic (v := 0) dX12_areTwo_25 (by decide) ?_
        refine E_iret dX12_areTwo_26 rfl rfl ?_
        exact hf (fun h => h.2.2 c18)
      · refine E_ic (v := 1) dX12_areTwo_21 (by decide) ?_
        refine E_goto dX12_areTwo_22 ?_
        refine E_iret dX12_areTwo_26 rfl rfl ?_
        exact ht h1 h2 c18
    · refine E_if_eq dX12_areTwo_13 (fun _ => ?_) (fun c => absurd (by decide) c)
      refine E_ic (v := 0) dX12_areTwo_25 (by decide) ?_
      refine E_iret dX12_areTwo_26 rfl rfl ?_
      exact hf (fun h => h2 h.2.1)
  · refine E_if_eq dX12_areTwo_5 (fun _ => ?_) (fun c => absurd (by decide) c)
    refine E_ic (v := 0) dX12_areTwo_25 (by decide) ?_
    refine E_iret dX12_areTwo_26 rfl rfl ?_
    exact hf (fun h => h1 h.1)
def underF (kind one : Int32) : Prop := one = 0 ∨ kind = one ∨ (one = 1 ∧ kind = 3) ∨ (one = 2 ∧ kind = 4)
theorem s_X12_isUnder {kind one : Int32} (ht : underF kind one → Q 1 G) (hf : ¬ underF kind one → Q 0 G) : C Θ d 0 0 yX12_isUnder cX12_isUnder 2 (some .boolean) [.int kind, .int one] n G (Qi Q) := by
  refine C_of rfl rfl (Nat.le_of_ble_eq_true rfl) ?_
  refine E_iload_n dX12_isUnder_0 rfl ?_
  refine E_if_eq dX12_isUnder_1 (fun c1 => ?_) (fun c1 => ?_)
  · refine E_ic (v := 1) dX12_isUnder_29 (by decide) ?_
    refine E_goto dX12_isUnder_30 ?_
    refine E_iret dX12_isUnder_34 rfl rfl ?_
    exact ht (by clear ht hf; simp_all [underF])
  · refine E_iload_n dX12_isUnder_4 rfl ?_
    refine E_iload_n dX12_isUnder_5 rfl ?_
    refine E_icmp_eq dX12_isUnder_6 (fun c6 => ?_) (fun c6 => ?_)
    · refine E_ic (v := 1) dX12_isUnder_29 (by decide) ?_
      refine E_goto dX12_isUnder_30 ?_
      refine E_iret dX12_isUnder_34 rfl rfl ?_
      exact ht (by clear ht hf; simp_all [underF])
    · refine E_iload_n dX12_isUnder_9 rfl ?_
      refine E_ic (v := 1) dX12_isUnder_10 (by decide) ?_
      refine E_icmp_ne dX12_isUnder_11 (fun c11 => ?_) (fun c11 => ?_)
      · refine E_iload_n dX12_isUnder_19 rfl ?_
        refine E_ic (v := 2) dX12_isUnder_20 (by decide) ?_
        refine E_icmp_ne dX12_isUnder_21 (fun c21 => ?_) (fun c21 => ?_)
        · refine E_ic (v := 0) dX12_isUnder_33 (by decide) ?_
          refine E_iret dX12_isUnder_34 rfl rfl ?_
          exact hf (by clear ht hf; simp_all [underF])
        · refine E_iload_n dX12_isUnder_24 rfl ?_
          refine E_ic (v := 4) dX12_isUnder_25 (by decide) ?_
          refine E_icmp_ne dX12_isUnder_26 (fun c26 => ?_) (fun c26 => ?_)
          · refine E_ic (v := 0) dX12_isUnder_33 (by decide) ?_
            refine E_iret dX12_isUnder_34 rfl rfl ?_
            exact hf (by clear ht hf; simp_all [underF])
          · refine E_ic (v := 1) dX12_isUnder_29 (by decide) ?_
            refine E_goto dX12_isUnder_30 ?_
            refine E_iret dX12_isUnder_34 rfl rfl ?_
            exact ht (by clear ht hf; simp_all [underF])
      · refine E_iload_n dX12_isUnder_14 rfl ?_
        refine E_ic (v := 3) dX12_isUnder_15 (by decide) ?_
        refine E_icmp_eq dX12_isUnder_16 (fun c16 => ?_) (fun c16 => ?_)
        · refine E_ic (v := 1) dX12_isUnder_29 (by decide) ?_
          refine E_goto dX12_isUnder_30 ?_
          refine E_iret dX12_isUnder_34 rfl rfl ?_
          exact ht (by clear ht hf; simp_all [underF])
        · refine E_iload_n dX12_isUnder_19 rfl ?_
          refine E_ic (v := 2) dX12_isUnder_20 (by decide) ?_
          refine E_icmp_ne dX12_isUnder_21 (fun c21 => ?_) (fun c21 => ?_)
          · refine E_ic (v := 0) dX12_isUnder_33 (by decide) ?_
            refine E_iret dX12_isUnder_34 rfl rfl ?_
            exact hf (by clear ht hf; simp_all [underF])
          · refine E_iload_n dX12_isUnder_24 rfl ?_
            refine E_ic (v := 4) dX12_isUnder_25 (by decide) ?_
            refine E_icmp_ne dX12_isUnder_26 (fun c26 => ?_) (fun c26 => ?_)
            · refine E_ic (v := 0) dX12_isUnder_33 (by decide) ?_
              refine E_iret dX12_isUnder_34 rfl rfl ?_
              exact hf (by clear ht hf; simp_all [underF])
            · refine E_ic (v := 1) dX12_isUnder_29 (by decide) ?_
              refine E_goto dX12_isUnder_30 ?_
              refine E_iret dX12_isUnder_34 rfl rfl ?_
              exact ht (by clear ht hf; simp_all [underF])
end Small
