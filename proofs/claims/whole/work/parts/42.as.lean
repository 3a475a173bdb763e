/-! one passenger more, on both sides; as -/
abbrev unF (kind one : Int32) : Prop := one = 0 ∨ kind = one ∨ (one = 1 ∧ kind = 3) ∨ (one = 2 ∧ kind = 4)
abbrev kindC : Int32 := -1000000012
abbrev fullC : Int32 := -1000000003
def asR (v : WV) (x z : Int32) : Int32 := (ix x (mN v)).elim bad fun p => (ix z 6).elim bad fun _ => if unF (v (15 + 9 * p)) z then v (17 + 9 * p) else kindC
theorem un_0 {x : Int32} : underF (nI 0) x ↔ (x = 0) := by
  rw [show nI 0 = (0 : Int32) from rfl, underF]
  constructor
  · rintro (h | h | ⟨h, g⟩ | ⟨h, g⟩)
    · simp [h]
    · simp [← h]
    · first | (exact absurd g (by decide)) | simp [h]
    · first | (exact absurd g (by decide)) | simp [h]
  · intro h
    rcases h with rfl <;> decide
theorem un_1 {x : Int32} : underF (nI 1) x ↔ (x = 1 ∨ x = 0) := by
  rw [show nI 1 = (1 : Int32) from rfl, underF]
  constructor
  · rintro (h | h | ⟨h, g⟩ | ⟨h, g⟩)
    · simp [h]
    · simp [← h]
    · first | (exact absurd g (by decide)) | simp [h]
    · first | (exact absurd g (by decide)) | simp [h]
  · intro h
    rcases h with rfl | rfl <;> decide
theorem un_2 {x : Int32} : underF (nI 2) x ↔ (x = 2 ∨ x = 0) := by
  rw [show nI 2 = (2 : Int32) from rfl, underF]
  constructor
  · rintro (h | h | ⟨h, g⟩ | ⟨h, g⟩)
    · simp [h]
    · simp [← h]
    · first | (exact absurd g (by decide)) | simp [h]
    · first | (exact absurd g (by decide)) | simp [h]
  · intro h
    rcases h with rfl | rfl <;> decide
theorem un_3 {x : Int32} : underF (nI 3) x ↔ (x = 3 ∨ x = 1 ∨ x = 0) := by
  rw [show nI 3 = (3 : Int32) from rfl, underF]
  constructor
  · rintro (h | h | ⟨h, g⟩ | ⟨h, g⟩)
    · simp [h]
    · simp [← h]
    · first | (exact absurd g (by decide)) | simp [h]
    · first | (exact absurd g (by decide)) | simp [h]
  · intro h
    rcases h with rfl | rfl | rfl <;> decide
theorem un_4 {x : Int32} : underF (nI 4) x ↔ (x = 4 ∨ x = 2 ∨ x = 0) := by
  rw [show nI 4 = (4 : Int32) from rfl, underF]
  constructor
  · rintro (h | h | ⟨h, g⟩ | ⟨h, g⟩)
    · simp [h]
    · simp [← h]
    · first | (exact absurd g (by decide)) | simp [h]
    · first | (exact absurd g (by decide)) | simp [h]
  · intro h
    rcases h with rfl | rfl | rfl <;> decide
theorem un_5 {x : Int32} : underF (nI 5) x ↔ (x = 5 ∨ x = 0) := by
  rw [show nI 5 = (5 : Int32) from rfl, underF]
  constructor
  · rintro (h | h | ⟨h, g⟩ | ⟨h, g⟩)
    · simp [h]
    · simp [← h]
    · first | (exact absurd g (by decide)) | simp [h]
    · first | (exact absurd g (by decide)) | simp [h]
  · intro h
    rcases h with rfl | rfl <;> decide
section Co
variable {Θ : Th} {d mc ms : Nat} {y : MethodName} {cc : ByteArray} {nL : Nat} {ret : Option FieldType} {cl sl : Nat} {S : SS} {v : WV} {pc pc' : Nat} {ls : LV} {st : List Value} {Q : QT}
theorem NV_X11_149 {c : Nat} {x : Int32} (hc : c < 6) (hy : y.cls = RX11) (hd : Dc cc pc (.invokevirtual 149) 3 pc') (hst : (st.map fun v => v.category).sum ≤ 8) (Kt : underF (nI c) x → E Θ (d + 3) mc ms y cc nL ret cl sl 183 (lay Θ S) pc' ls (.int 1 :: st) Q) (Kf : ¬ underF (nI c) x → E Θ (d + 3) mc ms y cc nL ret cl sl 183 (lay Θ S) pc' ls (.int 0 :: st) Q) : E Θ (d + 3) mc ms y cc nL ret cl sl 183 (lay Θ S) pc ls (.int x :: .ref (tb Θ + (14 + c)) :: st) Q := by
  match c, hc with
  | 0, _ => exact E_V1i (hy.symm ▸ vX11_149_3) hd hst (by decide) (rfl : lay Θ S (14 + 0) = _) (s_X3_isOf (fun h => Kt (un_0.mpr h)) (fun h => Kf (fun g => h (un_0.mp g))))
  | 1, _ => exact E_V1i (hy.symm ▸ vX11_149_2) hd hst (by decide) (rfl : lay Θ S (14 + 1) = _) (s_X2_isOf (kb := 14 + 1) (by decide) (fun _ => rfl) rfl (fun h => Kt (un_1.mpr h)) (fun h => Kf (fun g => h (un_1.mp g))))
  | 2, _ => exact E_V1i (hy.symm ▸ vX11_149_1) hd hst (by decide) (rfl : lay Θ S (14 + 2) = _) (s_X1_isOf (kb := 14 + 2) (by decide) (fun _ => rfl) rfl (fun h => Kt (un_2.mpr h)) (fun h => Kf (fun g => h (un_2.mp g))))
  | 3, _ => exact E_V1i (hy.symm ▸ vX11_149_9) hd hst (by decide) (rfl : lay Θ S (14 + 3) = _) (s_X9_isOf (kb := 14 + 3) (by decide) (fun _ => rfl) rfl (fun h => Kt (un_3.mpr h)) (fun h => Kf (fun g => h (un_3.mp g))))
  | 4, _ => exact E_V1i (hy.symm ▸ vX11_149_6) hd hst (by decide) (rfl : lay Θ S (14 + 4) = _) (s_X6_isOf (kb := 14 + 4) (by decide) (fun _ => rfl) rfl (fun h => Kt (un_4.mpr h)) (fun h => Kf (fun g => h (un_4.mp g))))
  | 5, _ => exact E_V1i (hy.symm ▸ vX11_149_0) hd hst (by decide) (rfl : lay Θ S (14 + 5) = _) (s_X0_isOf (kb := 14 + 5) (by decide) (fun _ => rfl) rfl (fun h => Kt (un_5.mpr h)) (fun h => Kf (fun g => h (un_5.mp g))))
  | k + 6, h => exact absurd h (by omega)
end Co
section Cp
variable {Θ : Th} {d : Nat} {S : SS} {v : WV}
theorem s_X12_as {Q : Int32 → HP → Prop} (hv : S 160 = v) {m : Nat} (hm : v 1 = nI m) (hmm : mN v = m) (hm9 : m ≤ 9) {x z : Int32} (hq : Q (asR v x z) (lay Θ S)) : C Θ (d + 2) 0 0 yX12_as cX12_as 3 (some .int) [.ref (tb Θ + 159), .int x, .int z] 183 (lay Θ S) (Qi Q) := by
  refine C_of rfl rfl (Nat.le_of_ble_eq_true rfl) ?_
  have hm1 : S 160 1 = nI m := by rw [hv]; exact hm
  refine E_aload_n dX12_as_0 rfl ?_
  refine E_iload_n dX12_as_1 rfl ?_
  refine E_V1i vX12_112_12 dX12_as_2 (Nat.le_of_ble_eq_true rfl) (by decide) (sh_159 _) (s_X12_isOne hm1 hm9 (fun g1 => ?_) (fun g1 => ?_))
  · obtain ⟨p, hp, ep, ip⟩ := ix_some (by omega) g1
    refine E_if_eq dX12_as_5 (fun c => absurd c (by decide)) (fun _ => ?_)
    refine E_iload_n dX12_as_8 rfl ?_
    refine E_ic (v := 0) dX12_as_9 (by decide) ?_
    refine E_ic (v := 5) dX12_as_10 (by decide) ?_
    refine E_S3i sX12_81 dX12_as_11 (Nat.le_of_ble_eq_true rfl) (s_X12_in (fun g2a g2b => ?_) (fun g2 => ?_))
    · obtain ⟨k, hk6, ek, ik⟩ := ix_some (by omega) (isIx_le (n := 5) (by decide) g2a g2b)
      refine E_if_ne dX12_as_14 (fun _ => ?_) (fun c => absurd c (by decide))
      refine E_aload_n dX12_as_20 rfl ?_
      refine E_iload_n dX12_as_21 rfl ?_
      refine E_ic (v := 0) dX12_as_22 (by decide) ?_
      refine E_V2i vX12_85_12 dX12_as_23 (Nat.le_of_ble_eq_true rfl) (by decide) (sh_159 _) (s_X12_of hv p 0 (15 + 9 * p) ep rfl (by omega) rfl ?_)
      refine E_iload_n dX12_as_26 rfl ?_
      refine E_S2i sX12_125 dX12_as_27 (Nat.le_of_ble_eq_true rfl) (s_X12_isUnder (fun gu => ?_) (fun gu => ?_))
      · refine E_if_eq dX12_as_30 (fun c => absurd c (by decide)) (fun _ => ?_)
        refine E_aload_n dX12_as_33 rfl ?_
        refine E_iload_n dX12_as_34 rfl ?_
        refine E_ic (v := 2) dX12_as_35 (by decide) ?_
        refine E_V2i vX12_85_12 dX12_as_36 (Nat.le_of_ble_eq_true rfl) (by decide) (sh_159 _) (s_X12_of hv p 2 (17 + 9 * p) ep rfl (by omega) (by omega) ?_)
        refine E_goto dX12_as_39 ?_
        refine E_iret dX12_as_44 rfl rfl ?_
        rw [asR, hmm, ip, Option.elim, ik, Option.elim, if_pos (show unF _ _ from gu)] at hq
        exact hq
      · refine E_if_eq dX12_as_30 (fun _ => ?_) (fun c => absurd (by decide) c)
        refine E_ldc dX12_as_42 kX12_129 ?_
        refine E_iret dX12_as_44 rfl rfl ?_
        rw [asR, hmm, ip, Option.elim, ik, Option.elim, if_neg (show ¬ unF _ _ from gu)] at hq
        exact hq
    · have ik := ix_none (n := 6) (by omega) (fun hh => g2 (isIx_back (n := 5) (by decide) hh))
      refine E_if_ne dX12_as_14 (fun c => absurd rfl c) (fun _ => ?_)
      refine E_ldc dX12_as_17 kX12_107 ?_
      refine E_iret dX12_as_19 rfl rfl ?_
      rw [asR, hmm, ip, Option.elim, ik] at hq
      exact hq
  · have ip := ix_none (by omega) g1
    refine E_if_eq dX12_as_5 (fun _ => ?_) (fun c => absurd (by decide) c)
    refine E_ldc dX12_as_17 kX12_107 ?_
    refine E_iret dX12_as_19 rfl rfl ?_
    rw [asR, hmm, ip] at hq
    exact hq
theorem s_X11_as {Q : Int32 → HP → Prop} (hR : WRep S 20 v) {m : Nat} (hm : v 1 = nI m) (hmm : mN v = m) (hm9 : m ≤ 9) (hpa : ∀ p, p < m → paOk v p) {x z : Int32} (hq : Q (asR v x z) (lay Θ S)) : C Θ (d + 3) 0 0 yX11_as cX11_as 4 (some .int) [.ref (tb Θ + 0), .int x, .int z] 183 (lay Θ S) (Qi Q) := by
  refine C_of rfl rfl (Nat.le_of_ble_eq_true rfl) ?_
  have hw : isW 20 := isW20
  have hm1 : S 20 1 = nI m := (hR.1 (1, 1) (by decide)).trans hm
  refine E_aload_n dX11_as_0 rfl ?_
  refine E_iload_n dX11_as_1 rfl ?_
  refine E_V1i vX11_118_11 dX11_as_2 (Nat.le_of_ble_eq_true rfl) (by decide) (sh_0 _) (s_X11_isOne hm1 hm9 (fun g1 => ?_) (fun g1 => ?_))
  · obtain ⟨p, hp, ep, ip⟩ := ix_some (by omega) g1
    refine E_if_eq dX11_as_5 (fun c => absurd c (by decide)) (fun _ => ?_)
    refine E_iload_n dX11_as_8 rfl ?_
    refine E_S1i sX11_98 dX11_as_9 (Nat.le_of_ble_eq_true rfl) (s_X11_isKind (fun g2 => ?_) (fun g2 => ?_))
    · obtain ⟨k, hk, ek, ik⟩ := ix_some (by omega) g2
      refine E_if_ne dX11_as_12 (fun _ => ?_) (fun c => absurd c (by decide))
      obtain ⟨⟨c, hc, hkd⟩, ⟨t, ht, et⟩, -, -⟩ := hpa p hp
      rw [kdF] at hkd
      rw [tmF] at et
      refine E_aload_n dX11_as_18 rfl ?_
      refine L_get fX11_83 dX11_as_19 (by decide) sh_0 rfl ?_
      refine L_get fX11_111 dX11_as_22 (by have := (isW20).lt; omega) (sh_W isW20) rfl ?_
      refine E_iload_n dX11_as_25 rfl ?_
      refine L_aald (j := p) dX11_as_26 (by have := (isW20).lt; omega) (sh_Wc isW20) rfl ep (by omega) (by decide) (if_pos (by omega)) ?_
      refine E_astore_n dX11_as_27 (by decide) ?_
      refine E_aload_n dX11_as_28 rfl ?_
      refine P_nat (p := p) (c := c) hR hw hmm hm9 hp hc hkd fX11_121 dX11_as_29 ?_
      refine E_iload_n dX11_as_32 rfl ?_
      refine NV_X11_149 hc rfl dX11_as_33 (Nat.le_of_ble_eq_true rfl) (fun gu => ?_) (fun gu => ?_)
      · refine E_if_eq dX11_as_36 (fun c => absurd c (by decide)) (fun _ => ?_)
        refine E_aload_n dX11_as_39 rfl ?_
        refine P_temp (p := p) hR hw hmm hm9 hp fX11_132 dX11_as_40 ?_
        refine E_goto dX11_as_43 ?_
        refine E_iret dX11_as_48 rfl rfl ?_
        rw [asR, hmm, ip, Option.elim, ik, Option.elim, hkd, if_pos (show unF _ _ from gu)] at hq
        exact hq
      · refine E_if_eq dX11_as_36 (fun _ => ?_) (fun c => absurd (by decide) c)
        refine E_ldc dX11_as_46 kX11_152 ?_
        refine E_iret dX11_as_48 rfl rfl ?_
        rw [asR, hmm, ip, Option.elim, ik, Option.elim, hkd, if_neg (show ¬ unF _ _ from gu)] at hq
        exact hq
    · have ik := ix_none (by omega) g2
      refine E_if_ne dX11_as_12 (fun c => absurd rfl c) (fun _ => ?_)
      refine E_ldc dX11_as_15 kX11_105 ?_
      refine E_iret dX11_as_17 rfl rfl ?_
      rw [asR, hmm, ip, Option.elim, ik] at hq
      exact hq
  · have ip := ix_none (by omega) g1
    refine E_if_eq dX11_as_5 (fun _ => ?_) (fun c => absurd (by decide) c)
    refine E_ldc dX11_as_15 kX11_105 ?_
    refine E_iret dX11_as_17 rfl rfl ?_
    rw [asR, hmm, ip] at hq
    exact hq
theorem l_J7_fill {Q : HP → Prop} {k len : Nat} (hk : k < 183) (hI : ∀ f, cellOf Θ k f = iA Θ 0 len f) (hlen : len < 2000) {z : Int32} : ∀ (f : Nat) (S : SS) (x2 : Int32) (i : Nat), x2 = nI i → i + f = len → (∀ j, j < i → S k j = z) → (∀ S', (∀ j, j < len → S' k j = z) → (∀ k', k' ≠ k → S' k' = S k') → Q (lay Θ S')) → E Θ d 0 0 yJ7_fill_53178 cJ7_fill_53178 4 none 0 0 183 (lay Θ S) 5 [(3, .int (nI len)), (2, .int x2), (1, .int z), (0, .ref (tb Θ + k))] [] (Qv Q) := by
  intro f
  induction f with
  | zero =>
    intro S x2 i hx hi hz hq
    refine E_iload_n dJ7_fill_53178_5 rfl ?_
    refine E_iload_n dJ7_fill_53178_6 rfl ?_
    refine E_icmp_ge dJ7_fill_53178_7 (fun _ => ?_) (fun c => absurd (by rw [hx]; exact nI_le (by omega) (by omega)) c)
    refine E_vret dJ7_fill_53178_20 rfl rfl ?_
    exact hq S (fun j hj => hz j (by omega)) (fun _ _ => rfl)
  | succ f ih =>
    intro S x2 i hx hi hz hq
    refine E_iload_n dJ7_fill_53178_5 rfl ?_
    refine E_iload_n dJ7_fill_53178_6 rfl ?_
    refine E_icmp_ge dJ7_fill_53178_7 (fun c => absurd ((nI_leI (by omega) (by omega)).mp (hx ▸ c)) (by omega)) (fun _ => ?_)
    refine E_aload_n dJ7_fill_53178_10 rfl ?_
    refine E_iload_n dJ7_fill_53178_11 rfl ?_
    refine E_iload_n dJ7_fill_53178_12 rfl ?_
    refine L_iast (j := i) dJ7_fill_53178_13 hk hI hx (by omega) (by omega) ?_
    refine E_iinc (v := 1) dJ7_fill_53178_14 rfl (by decide) (by decide) ?_
    refine E_goto dJ7_fill_53178_17 ?_
    refine E.loc (by exact ⟨rfl, rfl, rfl, rfl, trivial⟩) (ih (wr S k i z) (x2 + 1) (i + 1) (by rw [hx, nI_1]) (by omega) (fun j hj => ?_) (fun S' a b => hq S' a (fun k' hk' => (b k' hk').trans (wr_ne hk'))))
    rw [wr_at]
    by_cases e : j = i
    · rw [e, pk_us]
    · rw [pk_un e]
      exact hz j (by omega)
theorem s_J7_fill {Q : HP → Prop} {k len : Nat} (hk : k < 183) (hI : ∀ f, cellOf Θ k f = iA Θ 0 len f) (hlen : len < 2000) {z : Int32} (hq : ∀ S', (∀ j, j < len → S' k j = z) → (∀ k', k' ≠ k → S' k' = S k') → Q (lay Θ S')) : C Θ d 0 0 yJ7_fill_53178 cJ7_fill_53178 4 none [.ref (tb Θ + k), .int z] 183 (lay Θ S) (Qv Q) := by
  refine C_of rfl rfl (Nat.le_of_ble_eq_true rfl) ?_
  refine E_ic (v := 0) dJ7_fill_53178_0 (by decide) ?_
  refine E_istore_n dJ7_fill_53178_1 (by decide) ?_
  refine E_aload_n dJ7_fill_53178_2 rfl ?_
  refine L_alen dJ7_fill_53178_3 hk hI rfl ?_
  refine E_istore_n dJ7_fill_53178_4 (by decide) ?_
  exact E.loc (by exact ⟨rfl, rfl, rfl, rfl, trivial⟩) (l_J7_fill hk hI hlen len S 0 0 rfl (by omega) (fun j hj => absurd hj (by omega)) hq)
theorem s_X4_begin {Q : HP → Prop} {a c : Nat} {b : Int32} (ha : isP a) (hc : c < 6) (hq : ∀ S', S' a 0 = nI c → S' a 1 = b → S' a 2 = 0 → (∀ j, j < 6 → S' (a + 1) j = 0) → (∀ k, k ≠ a → k ≠ a + 1 → S' k = S k) → Q (lay Θ S')) : C Θ (d + 1) 0 0 yX4_begin cX4_begin 3 none [.ref (tb Θ + a), .ref (tb Θ + (14 + c)), .int b] 183 (lay Θ S) (Qv Q) := by
  refine C_of rfl rfl (Nat.le_of_ble_eq_true rfl) ?_
  refine E_aload_n dX4_begin_0 rfl ?_
  refine E_aload_n dX4_begin_1 rfl ?_
  refine L_put (x0 := nI c) fX4_15 dX4_begin_2 (by have := ha.lt; omega) (sh_P ha) rfl rfl (Nat.le_of_ble_eq_true rfl) (by rw [show Value.ref (tb Θ + (14 + c)) = kref Θ (nI c) by rw [kref, nI_clamp (by omega)]]; rfl) ?_
  refine E_aload_n dX4_begin_5 rfl ?_
  refine E_iload_n dX4_begin_6 rfl ?_
  refine L_puti fX4_19 dX4_begin_7 (by have := (ha).lt; omega) (sh_P ha) (Nat.le_of_ble_eq_true rfl) rfl ?_
  refine E_aload_n dX4_begin_10 rfl ?_
  refine E_ic (v := 0) dX4_begin_11 (by decide) ?_
  refine L_puti fX4_23 dX4_begin_12 (by have := (ha).lt; omega) (sh_P ha) (Nat.le_of_ble_eq_true rfl) rfl ?_
  refine E_aload_n dX4_begin_15 rfl ?_
  refine L_get fX4_9 dX4_begin_16 (by have := (ha).lt; omega) (sh_P ha) rfl ?_
  refine E_ic (v := 0) dX4_begin_19 (by decide) ?_
  refine E_S2v sX4_26 dX4_begin_20 (Nat.le_of_ble_eq_true rfl) (s_J7_fill (by have := ha.lt; omega) (sh_Pv ha) (by decide) (fun S20 a20 f20 => ?_))
  refine E_vret dX4_begin_23 rfl rfl ?_
  refine hq S20 ?_ ?_ ?_ a20 (fun k h1 h2 => ?_)
  · rw [f20 a (by omega), wr_at, pk_un (by decide), wr_at, pk_un (by decide), wr_at, pk_us]
  · rw [f20 a (by omega), wr_at, pk_un (by decide), wr_at, pk_us]
  · rw [f20 a (by omega), wr_at, pk_us]
  · rw [f20 k h2, wr_ne h1, wr_ne h1, wr_ne h1]
end Cp
