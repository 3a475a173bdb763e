/-! mark of the reference; pour and reads on both sides -/
theorem m1_leN {v : Int32} {m : Nat} (hm : m ≤ 100) (h0 : 0 ≤ v) (h1 : v ≤ nI m - 1) : isIx v m := by
  obtain ⟨j, hj, rfl⟩ := nI_of (i_lt h0)
  rcases Nat.eq_zero_or_pos m with rfl | hp
  · exact absurd h1 (fun h => absurd (Int32.le_trans h0 h) (by decide))
  · obtain ⟨q, rfl⟩ : ∃ q, m = q + 1 := ⟨m - 1, by omega⟩
    rw [nI_pred] at h1
    exact ⟨j, by have := (nI_leI hj (by omega)).mp h1; omega, rfl⟩
theorem m1_backN {v : Int32} {m : Nat} (hm : m ≤ 100) (h : isIx v m) : 0 ≤ v ∧ v ≤ nI m - 1 := by
  obtain ⟨c, hc, rfl⟩ := h
  obtain ⟨q, rfl⟩ : ∃ q, m = q + 1 := ⟨m - 1, by omega⟩
  rw [nI_pred]
  exact ⟨nI_pos' (by omega), nI_le (by omega) (by omega)⟩
def poV (v : WV) (c : Nat → Int32) : Nat → WV × Nat
  | 0 => (v, 0)
  | p + 1 => (upd (poV v c p).1 (17 + 9 * p) (if c p = nobody then (poV v c p).1 (17 + 9 * p) else clampF (c p) 0 99), if (poV v c p).1 (17 + 9 * p) = (if c p = nobody then (poV v c p).1 (17 + 9 * p) else clampF (c p) 0 99) then (poV v c p).2 else (poV v c p).2 + 1)
theorem po_un {v : WV} {c : Nat → Int32} {k : Nat} : ∀ p, (∀ q, q < p → k ≠ 17 + 9 * q) → (poV v c p).1 k = v k
  | 0, _ => rfl
  | p + 1, h => by
    rw [poV]
    simp only
    rw [pk_un (h p (by omega))]
    exact po_un p (fun q hq => h q (by omega))
theorem ite_1 {P : Prop} {i : Decidable P} {a : Nat} : @ite Nat P i a (a + 1) ≤ a + 1 := by
  by_cases h : P
  · rw [if_pos h]; omega
  · rw [if_neg h]; omega
theorem po_le {v : WV} {c : Nat → Int32} : ∀ p, (poV v c p).2 ≤ p
  | 0 => Nat.le_refl _
  | p + 1 => by
    have := po_le (v := v) (c := c) p
    rw [poV]
    exact Nat.le_trans ite_1 (by omega)
theorem IV.temper {v : WV} {m p t : Nat} (h : IV v) (hmm : mN v = m) (hp : p < m) (ht : t < 100) : IV (upd v (17 + 9 * p) (nI t)) := by
  obtain ⟨hI, w, h1, h2, h3⟩ := h.m hmm
  refine IV_iff.mpr ⟨m, hI.temper hp ht, w, h1, by rw [pk_un (by omega)]; exact h2, fun h0 => ?_⟩
  obtain ⟨q, r, j, a1, a2, a3, a4, a5, a6⟩ := h3 h0
  exact ⟨q, r, j, a1, a2, a3, by rw [pk_un (by omega)]; exact a4, by rw [pk_un (by omega)]; exact a5, by rw [pk_un (by omega)]; exact a6⟩
theorem po_iv {v : WV} {c : Nat → Int32} {m : Nat} (iv : IV v) (hmm : mN v = m) : ∀ p, p ≤ m → IV (poV v c p).1
  | 0, _ => iv
  | p + 1, hp => by
    have ih := po_iv (c := c) iv hmm p (by omega)
    have hm : mN (poV v c p).1 = m := by rw [mN, po_un p (fun q _ => by omega)]; exact hmm
    rw [poV]
    simp only
    by_cases e : c p = nobody
    · rw [if_pos e, upd_self rfl]
      exact ih
    · rw [if_neg e]
      obtain ⟨t, ht, et⟩ := clamp_ix (c p)
      rw [et]
      exact ih.temper hm (by omega) ht
theorem po_skip {v : WV} {c : Nat → Int32} {p : Nat} (h : (if c p = nobody then (poV v c p).1 (17 + 9 * p) else clampF (c p) 0 99) = (poV v c p).1 (17 + 9 * p)) : poV v c (p + 1) = poV v c p := by
  rw [poV, h, upd_self rfl, if_pos rfl]
theorem po_new {v : WV} {c : Nat → Int32} {p : Nat} (h : ¬ (if c p = nobody then (poV v c p).1 (17 + 9 * p) else clampF (c p) 0 99) = (poV v c p).1 (17 + 9 * p)) : poV v c (p + 1) = (upd (poV v c p).1 (17 + 9 * p) (if c p = nobody then (poV v c p).1 (17 + 9 * p) else clampF (c p) 0 99), (poV v c p).2 + 1) := by
  rw [poV]
  exact Prod.ext rfl (if_neg (fun e => h e.symm))
def pourR (X : SH) (v : WV) (x : Int32) : Int32 × WV := (ix x 4).elim (bad, v) fun s => if X.1 s < 0 then (nothC, v) else (nI (poV v (X.2.2 s) (min (X.2.1 s) (mN v))).2, (poV v (X.2.2 s) (min (X.2.1 s) (mN v))).1)
def reF (v : WV) (c : Nat → Int32) : Nat → Nat → Int32
  | 0, _ => nobody
  | f + 1, k => if ¬ c k = nobody ∧ ¬ (k < mN v ∧ c k = v (16 + 9 * k)) then nI k else reF v c f (k + 1)
theorem re_hit {v : WV} {c : Nat → Int32} {f k : Nat} (h : ¬ c k = nobody ∧ ¬ (k < mN v ∧ c k = v (16 + 9 * k))) : reF v c (f + 1) k = nI k := by rw [reF, if_pos h]
theorem re_miss {v : WV} {c : Nat → Int32} {f k : Nat} (h : ¬ (¬ c k = nobody ∧ ¬ (k < mN v ∧ c k = v (16 + 9 * k)))) : reF v c (f + 1) k = reF v c f (k + 1) := by rw [reF, if_neg h]
def readsR (X : SH) (v : WV) (x : Int32) : Int32 := (ix x 4).elim bad fun s => if X.1 s < 0 then nothC else reF v (X.2.2 s) (X.2.1 s) 0
section Po
variable {Θ : Th} {d : Nat} {S : SS} {v : WV}
theorem s_X12_mark {Q : Int32 → HP → Prop} {X : SH} (hX : RSh S X) (oX : OSh X) {x y z : Int32} (hq : ∀ S', RSh S' (markR X x y z).2 → RSF S S' → Q (markR X x y z).1 (lay Θ S')) : C Θ (d + 2) 0 0 yX12_mark cX12_mark 4 (some .int) [.ref (tb Θ + 159), .int x, .int y, .int z] 183 (lay Θ S) (Qi Q) := by
  refine C_of rfl rfl (Nat.le_of_ble_eq_true rfl) ?_
  refine E_iload_n dX12_mark_0 rfl ?_
  refine E_S1i sX12_202 dX12_mark_1 (Nat.le_of_ble_eq_true rfl) (s_X12_isSheet (fun g1 => ?_) (fun g1 => ?_))
  · obtain ⟨s, hs, es, is⟩ := ix_some (by omega) g1
    refine E_if_ne dX12_mark_4 (fun _ => ?_) (fun c => absurd c (by decide))
    have h24 := (oX s hs).2
    rcases (oX s hs).1 with e | e | e
    · refine E_aload_n dX12_mark_10 rfl ?_
      refine L_get fX12_54 dX12_mark_11 (by decide) sh_159 rfl ?_
      refine E_iload_n dX12_mark_14 rfl ?_
      refine L_iald (j := s) dX12_mark_15 (by decide) sh_174 es hs (by decide) ?_
      rw [(hX s hs).1, e]
      refine E_if_ge dX12_mark_16 (fun c => absurd c (by decide)) (fun _ => ?_)
      refine E_ldc dX12_mark_19 kX12_205 ?_
      refine E_iret dX12_mark_21 rfl rfl ?_
      rw [markR, is, Option.elim, if_pos (by rw [e]; decide)] at hq
      exact hq S hX RSF.rf
    · refine E_aload_n dX12_mark_10 rfl ?_
      refine L_get fX12_54 dX12_mark_11 (by decide) sh_159 rfl ?_
      refine E_iload_n dX12_mark_14 rfl ?_
      refine L_iald (j := s) dX12_mark_15 (by decide) sh_174 es hs (by decide) ?_
      rw [(hX s hs).1, e]
      refine E_if_ge dX12_mark_16 (fun _ => ?_) (fun c => absurd (by decide) c)
      refine E_iload_n dX12_mark_22 rfl ?_
      refine E_ic (v := 0) dX12_mark_23 (by decide) ?_
      refine E_aload_n dX12_mark_24 rfl ?_
      refine L_get fX12_57 dX12_mark_25 (by decide) sh_159 rfl ?_
      refine E_iload_n dX12_mark_28 rfl ?_
      refine L_iald (j := s) dX12_mark_29 (by decide) sh_175 es hs (by decide) ?_
      rw [(hX s hs).2.1]
      refine E_ic (v := 1) dX12_mark_30 (by decide) ?_
      refine E_isub dX12_mark_31 ?_
      refine E_S3i sX12_81 dX12_mark_32 (Nat.le_of_ble_eq_true rfl) (s_X12_in (fun ga gb => ?_) (fun gp => ?_))
      · obtain ⟨k, hk, ek, ik⟩ := ix_some (by omega) (m1_leN (by omega) ga gb)
        have hk24 : k < 24 := by omega
        refine E_if_ne dX12_mark_35 (fun _ => ?_) (fun c => absurd c (by decide))
        refine E_aload_n dX12_mark_42 rfl ?_
        refine L_get fX12_54 dX12_mark_43 (by decide) sh_159 rfl ?_
        refine E_iload_n dX12_mark_46 rfl ?_
        refine L_iald (j := s) dX12_mark_47 (by decide) sh_174 es hs (by decide) ?_
        rw [(hX s hs).1, e]
        refine E_if_ne dX12_mark_48 (fun c => absurd rfl c) (fun _ => ?_)
        refine E_iload_n dX12_mark_51 rfl ?_
        refine E_ldc dX12_mark_52 kX12_136 ?_
        refine E_icmp_ne dX12_mark_54 (fun c54 => ?_) (fun c54 => ?_)
        · refine E_aload_n dX12_mark_60 rfl ?_
          refine L_get fX12_54 dX12_mark_61 (by decide) sh_159 rfl ?_
          refine E_iload_n dX12_mark_64 rfl ?_
          refine L_iald (j := s) dX12_mark_65 (by decide) sh_174 es hs (by decide) ?_
          rw [(hX s hs).1, e]
          refine E_ic (v := 1) dX12_mark_66 (by decide) ?_
          refine E_icmp_ne dX12_mark_67 (fun _ => ?_) (fun c => absurd c (by decide))
          refine E_aload_n dX12_mark_92 rfl ?_
          refine L_get fX12_60 dX12_mark_93 (by decide) sh_159 rfl ?_
          refine E_bipush (v := 24) dX12_mark_96 (by decide) ?_
          refine E_iload_n dX12_mark_98 rfl ?_
          refine E_imul dX12_mark_99 ?_
          refine E_iload_n dX12_mark_100 rfl ?_
          refine E_iadd dX12_mark_101 ?_
          refine E_aload_n dX12_mark_102 rfl ?_
          refine L_get fX12_54 dX12_mark_103 (by decide) sh_159 rfl ?_
          refine E_iload_n dX12_mark_106 rfl ?_
          refine L_iald (j := s) dX12_mark_107 (by decide) sh_174 es hs (by decide) ?_
          rw [(hX s hs).1, e]
          refine E_if_ne dX12_mark_108 (fun c => absurd rfl c) (fun _ => ?_)
          refine E_iload_n dX12_mark_111 rfl ?_
          refine E_i2s dX12_mark_112 ?_
          refine E_goto dX12_mark_113 ?_
          refine L_iast (j := 24 * s + k) dX12_mark_117 (by decide) sh_176 (by rw [es, ek]; exact ce_ix) (by omega) (by decide) ?_
          refine E_ic (v := 1) dX12_mark_118 (by decide) ?_
          refine E_iret dX12_mark_119 rfl rfl ?_
          rw [markR, is, Option.elim, if_neg (by rw [e]; decide), ik, Option.elim, if_pos e, if_neg c54] at hq
          exact hq _ (hX.mk hs hk24 wr_at (fun k hk => wr_ne hk)) (fun k h1 h2 h3 => wr_ne h3)
        · refine E_ldc dX12_mark_57 kX12_129 ?_
          refine E_iret dX12_mark_59 rfl rfl ?_
          rw [markR, is, Option.elim, if_neg (by rw [e]; decide), ik, Option.elim, if_pos e, if_pos c54] at hq
          exact hq S hX RSF.rf
      · have ik := ix_none (by omega) (fun hh => gp (m1_backN (by omega) hh))
        refine E_if_ne dX12_mark_35 (fun c => absurd rfl c) (fun _ => ?_)
        refine E_ldcw dX12_mark_38 kX12_275 ?_
        refine E_iret dX12_mark_41 rfl rfl ?_
        rw [markR, is, Option.elim, if_neg (by rw [e]; decide), ik] at hq
        exact hq S hX RSF.rf
    · refine E_aload_n dX12_mark_10 rfl ?_
      refine L_get fX12_54 dX12_mark_11 (by decide) sh_159 rfl ?_
      refine E_iload_n dX12_mark_14 rfl ?_
      refine L_iald (j := s) dX12_mark_15 (by decide) sh_174 es hs (by decide) ?_
      rw [(hX s hs).1, e]
      refine E_if_ge dX12_mark_16 (fun _ => ?_) (fun c => absurd (by decide) c)
      refine E_iload_n dX12_mark_22 rfl ?_
      refine E_ic (v := 0) dX12_mark_23 (by decide) ?_
      refine E_aload_n dX12_mark_24 rfl ?_
      refine L_get fX12_57 dX12_mark_25 (by decide) sh_159 rfl ?_
      refine E_iload_n dX12_mark_28 rfl ?_
      refine L_iald (j := s) dX12_mark_29 (by decide) sh_175 es hs (by decide) ?_
      rw [(hX s hs).2.1]
      refine E_ic (v := 1) dX12_mark_30 (by decide) ?_
      refine E_isub dX12_mark_31 ?_
      refine E_S3i sX12_81 dX12_mark_32 (Nat.le_of_ble_eq_true rfl) (s_X12_in (fun ga gb => ?_) (fun gp => ?_))
      · obtain ⟨k, hk, ek, ik⟩ := ix_some (by omega) (m1_leN (by omega) ga gb)
        have hk24 : k < 24 := by omega
        refine E_if_ne dX12_mark_35 (fun _ => ?_) (fun c => absurd c (by decide))
        refine E_aload_n dX12_mark_42 rfl ?_
        refine L_get fX12_54 dX12_mark_43 (by decide) sh_159 rfl ?_
        refine E_iload_n dX12_mark_46 rfl ?_
        refine L_iald (j := s) dX12_mark_47 (by decide) sh_174 es hs (by decide) ?_
        rw [(hX s hs).1, e]
        refine E_if_ne dX12_mark_48 (fun _ => ?_) (fun c => absurd c (by decide))
        refine E_aload_n dX12_mark_60 rfl ?_
        refine L_get fX12_54 dX12_mark_61 (by decide) sh_159 rfl ?_
        refine E_iload_n dX12_mark_64 rfl ?_
        refine L_iald (j := s) dX12_mark_65 (by decide) sh_174 es hs (by decide) ?_
        rw [(hX s hs).1, e]
        refine E_ic (v := 1) dX12_mark_66 (by decide) ?_
        refine E_icmp_ne dX12_mark_67 (fun c => absurd rfl c) (fun _ => ?_)
        refine E_iload_n dX12_mark_70 rfl ?_
        refine E_ldc dX12_mark_71 kX12_136 ?_
        refine E_icmp_eq dX12_mark_73 (fun c73 => ?_) (fun c73 => ?_)
        · refine E_aload_n dX12_mark_92 rfl ?_
          refine L_get fX12_60 dX12_mark_93 (by decide) sh_159 rfl ?_
          refine E_bipush (v := 24) dX12_mark_96 (by decide) ?_
          refine E_iload_n dX12_mark_98 rfl ?_
          refine E_imul dX12_mark_99 ?_
          refine E_iload_n dX12_mark_100 rfl ?_
          refine E_iadd dX12_mark_101 ?_
          refine E_aload_n dX12_mark_102 rfl ?_
          refine L_get fX12_54 dX12_mark_103 (by decide) sh_159 rfl ?_
          refine E_iload_n dX12_mark_106 rfl ?_
          refine L_iald (j := s) dX12_mark_107 (by decide) sh_174 es hs (by decide) ?_
          rw [(hX s hs).1, e]
          refine E_if_ne dX12_mark_108 (fun _ => ?_) (fun c => absurd c (by decide))
          refine E_iload_n dX12_mark_116 rfl ?_
          refine L_iast (j := 24 * s + k) dX12_mark_117 (by decide) sh_176 (by rw [es, ek]; exact ce_ix) (by omega) (by decide) ?_
          refine E_ic (v := 1) dX12_mark_118 (by decide) ?_
          refine E_iret dX12_mark_119 rfl rfl ?_
          rw [markR, is, Option.elim, if_neg (by rw [e]; decide), ik, Option.elim, if_neg (by rw [e]; decide), if_neg (fun h => h.1 c73)] at hq
          exact hq _ (hX.mk hs hk24 wr_at (fun k hk => wr_ne hk)) (fun k h1 h2 h3 => wr_ne h3)
        · refine E_iload_n dX12_mark_76 rfl ?_
          refine E_ldcw dX12_mark_77 kX12_276 ?_
          refine E_ldcw dX12_mark_80 kX12_277 ?_
          refine E_S3i sX12_81 dX12_mark_83 (Nat.le_of_ble_eq_true rfl) (s_X12_in (fun g5a g5b => ?_) (fun g5 => ?_))
          · refine E_if_ne dX12_mark_86 (fun _ => ?_) (fun c => absurd c (by decide))
            refine E_aload_n dX12_mark_92 rfl ?_
            refine L_get fX12_60 dX12_mark_93 (by decide) sh_159 rfl ?_
            refine E_bipush (v := 24) dX12_mark_96 (by decide) ?_
            refine E_iload_n dX12_mark_98 rfl ?_
            refine E_imul dX12_mark_99 ?_
            refine E_iload_n dX12_mark_100 rfl ?_
            refine E_iadd dX12_mark_101 ?_
            refine E_aload_n dX12_mark_102 rfl ?_
            refine L_get fX12_54 dX12_mark_103 (by decide) sh_159 rfl ?_
            refine E_iload_n dX12_mark_106 rfl ?_
            refine L_iald (j := s) dX12_mark_107 (by decide) sh_174 es hs (by decide) ?_
            rw [(hX s hs).1, e]
            refine E_if_ne dX12_mark_108 (fun _ => ?_) (fun c => absurd c (by decide))
            refine E_iload_n dX12_mark_116 rfl ?_
            refine L_iast (j := 24 * s + k) dX12_mark_117 (by decide) sh_176 (by rw [es, ek]; exact ce_ix) (by omega) (by decide) ?_
            refine E_ic (v := 1) dX12_mark_118 (by decide) ?_
            refine E_iret dX12_mark_119 rfl rfl ?_
            rw [markR, is, Option.elim, if_neg (by rw [e]; decide), ik, Option.elim, if_neg (by rw [e]; decide), if_neg (fun h => h.2 ⟨g5a, g5b⟩)] at hq
            exact hq _ (hX.mk hs hk24 wr_at (fun k hk => wr_ne hk)) (fun k h1 h2 h3 => wr_ne h3)
          · refine E_if_ne dX12_mark_86 (fun c => absurd rfl c) (fun _ => ?_)
            refine E_ldc dX12_mark_89 kX12_107 ?_
            refine E_iret dX12_mark_91 rfl rfl ?_
            rw [markR, is, Option.elim, if_neg (by rw [e]; decide), ik, Option.elim, if_neg (by rw [e]; decide), if_pos ⟨c73, g5⟩] at hq
            exact hq S hX RSF.rf
      · have ik := ix_none (by omega) (fun hh => gp (m1_backN (by omega) hh))
        refine E_if_ne dX12_mark_35 (fun c => absurd rfl c) (fun _ => ?_)
        refine E_ldcw dX12_mark_38 kX12_275 ?_
        refine E_iret dX12_mark_41 rfl rfl ?_
        rw [markR, is, Option.elim, if_neg (by rw [e]; decide), ik] at hq
        exact hq S hX RSF.rf
  · have is := ix_none (by omega) g1
    refine E_if_ne dX12_mark_4 (fun c => absurd rfl c) (fun _ => ?_)
    refine E_ldc dX12_mark_7 kX12_107 ?_
    refine E_iret dX12_mark_9 rfl rfl ?_
    rw [markR, is] at hq
    exact hq S hX RSF.rf
theorem l_X12_pour {Q : Int32 → HP → Prop} {s n m : Nat} (hs : s < 4) (h24 : n ≤ 24) (hm9 : m ≤ 9) {c : Nat → Int32} (hm : v 1 = nI m) : ∀ (f : Nat) (S : SS) (x2 x3 : Int32) (p : Nat), x2 = nI (poV v c p).2 → x3 = nI p → p + f = min n m → S 160 = (poV v c p).1 → S 175 s = nI n → (∀ k, k < 24 → S 176 (24 * s + k) = c k) → (∀ S', S' 160 = (poV v c (min n m)).1 → MF S S' → Q (nI (poV v c (min n m)).2) (lay Θ S')) → E Θ (d + 1) 0 0 yX12_pour cX12_pour 6 (some .int) 0 0 183 (lay Θ S) 26 [(3, .int x3), (2, .int x2), (1, .int (nI s)), (0, .ref (tb Θ + 159))] [] (Qi Q) := by
  intro f
  induction f with
  | zero =>
    intro S x2 x3 p hx2 hx3 hi hv hn hc hq
    have hm1 : (poV v c p).1 1 = nI m := (po_un p (fun q _ => by omega)).trans hm
    rcases (show n ≤ p ∨ m ≤ p by omega) with h | h
    · refine E_iload_n dX12_pour_26 rfl ?_
      refine E_aload_n dX12_pour_27 rfl ?_
      refine L_get fX12_57 dX12_pour_28 (by decide) sh_159 rfl ?_
      refine E_iload_n dX12_pour_31 rfl ?_
      refine L_iald (j := s) dX12_pour_32 (by decide) sh_175 rfl hs (by decide) ?_
      rw [hn]
      refine E_icmp_ge dX12_pour_33 (fun _ => ?_) (fun c => absurd (by rw [hx3]; exact nI_le h (by omega)) c)
      refine E_iload_n dX12_pour_119 rfl ?_
      refine E_iret dX12_pour_120 rfl rfl ?_
      obtain rfl : p = min n m := by omega
      rw [hx2]
      exact hq S hv MF.rf
    · refine E_iload_n dX12_pour_26 rfl ?_
      refine E_aload_n dX12_pour_27 rfl ?_
      refine L_get fX12_57 dX12_pour_28 (by decide) sh_159 rfl ?_
      refine E_iload_n dX12_pour_31 rfl ?_
      refine L_iald (j := s) dX12_pour_32 (by decide) sh_175 rfl hs (by decide) ?_
      rw [hn]
      refine E_icmp_ge dX12_pour_33 (fun c33 => ?_) (fun c33 => ?_)
      · refine E_iload_n dX12_pour_119 rfl ?_
        refine E_iret dX12_pour_120 rfl rfl ?_
        obtain rfl : p = min n m := by omega
        rw [hx2]
        exact hq S hv MF.rf
      · refine E_iload_n dX12_pour_36 rfl ?_
        refine E_aload_n dX12_pour_37 rfl ?_
        refine L_get fX12_9 dX12_pour_38 (by decide) sh_159 rfl ?_
        refine E_ic (v := 1) dX12_pour_41 (by decide) ?_
        refine N_iald (j := 1) dX12_pour_42 rfl (by decide) hv ?_
        refine E_icmp_ge dX12_pour_43 (fun _ => ?_) (fun c => absurd (by rw [hm1, hx3]; exact nI_le h (by omega)) c)
        refine E_iload_n dX12_pour_119 rfl ?_
        refine E_iret dX12_pour_120 rfl rfl ?_
        obtain rfl : p = min n m := by omega
        rw [hx2]
        exact hq S hv MF.rf
  | succ f ih =>
    intro S x2 x3 p hx2 hx3 hi hv hn hc hq
    have hm1 : (poV v c p).1 1 = nI m := (po_un p (fun q _ => by omega)).trans hm
    refine E_iload_n dX12_pour_26 rfl ?_
    refine E_aload_n dX12_pour_27 rfl ?_
    refine L_get fX12_57 dX12_pour_28 (by decide) sh_159 rfl ?_
    refine E_iload_n dX12_pour_31 rfl ?_
    refine L_iald (j := s) dX12_pour_32 (by decide) sh_175 rfl hs (by decide) ?_
    rw [hn]
    refine E_icmp_ge dX12_pour_33 (fun c => absurd c (ge_no (by omega) (by omega) hx3 (by omega))) (fun _ => ?_)
    refine E_iload_n dX12_pour_36 rfl ?_
    refine E_aload_n dX12_pour_37 rfl ?_
    refine L_get fX12_9 dX12_pour_38 (by decide) sh_159 rfl ?_
    refine E_ic (v := 1) dX12_pour_41 (by decide) ?_
    refine N_iald (j := 1) dX12_pour_42 rfl (by decide) hv ?_
    refine E_icmp_ge dX12_pour_43 (fun c => absurd c (by rw [hm1]; exact ge_no (by omega) (by omega) hx3 (by omega))) (fun _ => ?_)
    refine E_aload_n dX12_pour_46 rfl ?_
    refine L_get fX12_60 dX12_pour_47 (by decide) sh_159 rfl ?_
    refine E_bipush (v := 24) dX12_pour_50 (by decide) ?_
    refine E_iload_n dX12_pour_52 rfl ?_
    refine E_imul dX12_pour_53 ?_
    refine E_iload_n dX12_pour_54 rfl ?_
    refine E_iadd dX12_pour_55 ?_
    refine L_iald (j := 24 * s + p) dX12_pour_56 (by decide) sh_176 (by rw [hx3]; exact ce_ix) (by omega) (by decide) ?_
    rw [hc p (by omega)]
    refine E_istore dX12_pour_57 (by decide) ?_
    refine E_iload dX12_pour_59 rfl ?_
    refine E_ldc dX12_pour_61 kX12_136 ?_
    refine E_icmp_ne dX12_pour_63 (fun c63 => ?_) (fun c63 => ?_)
    · refine E_iload dX12_pour_75 rfl ?_
      refine E_ic (v := 0) dX12_pour_77 (by decide) ?_
      refine E_bipush (v := 99) dX12_pour_78 (by decide) ?_
      refine E_S3i sX12_100 dX12_pour_80 (Nat.le_of_ble_eq_true rfl) (s_X12_within ?_)
      refine E_istore dX12_pour_83 (by decide) ?_
      refine E_iload_n dX12_pour_85 rfl ?_
      refine E_aload_n dX12_pour_86 rfl ?_
      refine E_bipush (v := 15) dX12_pour_87 (by decide) ?_
      refine E_bipush (v := 9) dX12_pour_89 (by decide) ?_
      refine E_iload_n dX12_pour_91 rfl ?_
      refine E_imul dX12_pour_92 ?_
      refine E_iadd dX12_pour_93 ?_
      refine E_ic (v := 2) dX12_pour_94 (by decide) ?_
      refine E_iadd dX12_pour_95 ?_
      refine E_iload dX12_pour_96 rfl ?_
      refine E_V2i vX12_122_12 dX12_pour_98 (Nat.le_of_ble_eq_true rfl) (by decide) (sh_159 _) (s_X12_swaps hv (17 + 9 * p) (by rw [hx3]; exact (ofI p 2).trans (congrArg nI (by omega))) (by omega) (fun S98 h98 f98 => ?_))
      refine E_iload dX12_pour_101 rfl ?_
      refine E_icmp_ne dX12_pour_103 (fun c103 => ?_) (fun c103 => ?_)
      · refine E_ic (v := 1) dX12_pour_110 (by decide) ?_
        refine E_iadd dX12_pour_111 ?_
        refine E_istore_n dX12_pour_112 (by decide) ?_
        refine E_iinc (v := 1) dX12_pour_113 rfl (by decide) (by decide) ?_
        refine E_goto dX12_pour_116 ?_
        have hto : (if c p = nobody then (poV v c p).1 (17 + 9 * p) else clampF (c p) 0 99) = clampF (c p) 0 99 := by rw [if_neg c63]
        exact E.loc (by exact ⟨rfl, rfl, rfl, rfl, trivial⟩) (ih S98 _ _ (p + 1) (by rw [po_new (by rw [hto]; exact fun e => c103 e.symm), hx2, nI_1]) (by rw [hx3, nI_1]) (by omega) (by rw [h98, poV, hto]) (by rw [f98 175 (by decide) (by decide) (by decide)]; exact hn) (by rw [f98 176 (by decide) (by decide) (by decide)]; exact hc) (fun S9 a9 b9 => hq S9 a9 (f98.tr b9)))
      · refine E_ic (v := 0) dX12_pour_106 (by decide) ?_
        refine E_goto dX12_pour_107 ?_
        refine E_iadd dX12_pour_111 ?_
        refine E_istore_n dX12_pour_112 (by decide) ?_
        refine E_iinc (v := 1) dX12_pour_113 rfl (by decide) (by decide) ?_
        refine E_goto dX12_pour_116 ?_
        have hto : (if c p = nobody then (poV v c p).1 (17 + 9 * p) else clampF (c p) 0 99) = clampF (c p) 0 99 := by rw [if_neg c63]
        exact E.loc (by exact ⟨rfl, rfl, rfl, rfl, trivial⟩) (ih S98 _ _ (p + 1) (by rw [po_skip (hto.trans c103.symm), hx2, ad0]) (by rw [hx3, nI_1]) (by omega) (by rw [h98, poV, hto]) (by rw [f98 175 (by decide) (by decide) (by decide)]; exact hn) (by rw [f98 176 (by decide) (by decide) (by decide)]; exact hc) (fun S9 a9 b9 => hq S9 a9 (f98.tr b9)))
    · refine E_aload_n dX12_pour_66 rfl ?_
      refine E_iload_n dX12_pour_67 rfl ?_
      refine E_ic (v := 2) dX12_pour_68 (by decide) ?_
      refine E_V2i vX12_85_12 dX12_pour_69 (Nat.le_of_ble_eq_true rfl) (by decide) (sh_159 _) (s_X12_of hv p 2 (17 + 9 * p) hx3 rfl (by omega) (by omega) ?_)
      refine E_goto dX12_pour_72 ?_
      refine E_istore dX12_pour_83 (by decide) ?_
      refine E_iload_n dX12_pour_85 rfl ?_
      refine E_aload_n dX12_pour_86 rfl ?_
      refine E_bipush (v := 15) dX12_pour_87 (by decide) ?_
      refine E_bipush (v := 9) dX12_pour_89 (by decide) ?_
      refine E_iload_n dX12_pour_91 rfl ?_
      refine E_imul dX12_pour_92 ?_
      refine E_iadd dX12_pour_93 ?_
      refine E_ic (v := 2) dX12_pour_94 (by decide) ?_
      refine E_iadd dX12_pour_95 ?_
      refine E_iload dX12_pour_96 rfl ?_
      refine E_V2i vX12_122_12 dX12_pour_98 (Nat.le_of_ble_eq_true rfl) (by decide) (sh_159 _) (s_X12_swaps hv (17 + 9 * p) (by rw [hx3]; exact (ofI p 2).trans (congrArg nI (by omega))) (by omega) (fun S98 h98 f98 => ?_))
      refine E_iload dX12_pour_101 rfl ?_
      refine E_icmp_ne dX12_pour_103 (fun c103 => ?_) (fun c103 => ?_)
      · refine E_ic (v := 1) dX12_pour_110 (by decide) ?_
        refine E_iadd dX12_pour_111 ?_
        refine E_istore_n dX12_pour_112 (by decide) ?_
        refine E_iinc (v := 1) dX12_pour_113 rfl (by decide) (by decide) ?_
        refine E_goto dX12_pour_116 ?_
        have hto : (if c p = nobody then (poV v c p).1 (17 + 9 * p) else clampF (c p) 0 99) = (poV v c p).1 (17 + 9 * p) := by rw [if_pos c63]
        exact E.loc (by exact ⟨rfl, rfl, rfl, rfl, trivial⟩) (ih S98 _ _ (p + 1) (by rw [po_new (fun _ => c103 rfl), hx2, nI_1]) (by rw [hx3, nI_1]) (by omega) (by rw [h98, poV, hto]) (by rw [f98 175 (by decide) (by decide) (by decide)]; exact hn) (by rw [f98 176 (by decide) (by decide) (by decide)]; exact hc) (fun S9 a9 b9 => hq S9 a9 (f98.tr b9)))
      · refine E_ic (v := 0) dX12_pour_106 (by decide) ?_
        refine E_goto dX12_pour_107 ?_
        refine E_iadd dX12_pour_111 ?_
        refine E_istore_n dX12_pour_112 (by decide) ?_
        refine E_iinc (v := 1) dX12_pour_113 rfl (by decide) (by decide) ?_
        refine E_goto dX12_pour_116 ?_
        have hto : (if c p = nobody then (poV v c p).1 (17 + 9 * p) else clampF (c p) 0 99) = (poV v c p).1 (17 + 9 * p) := by rw [if_pos c63]
        exact E.loc (by exact ⟨rfl, rfl, rfl, rfl, trivial⟩) (ih S98 _ _ (p + 1) (by rw [po_skip hto, hx2, ad0]) (by rw [hx3, nI_1]) (by omega) (by rw [h98, poV, hto]) (by rw [f98 175 (by decide) (by decide) (by decide)]; exact hn) (by rw [f98 176 (by decide) (by decide) (by decide)]; exact hc) (fun S9 a9 b9 => hq S9 a9 (f98.tr b9)))
theorem s_X12_pour {Q : Int32 → HP → Prop} (hv : S 160 = v) {m : Nat} (hm : v 1 = nI m) (hmm : mN v = m) (hm9 : m ≤ 9) {X : SH} (hX : RSh S X) (oX : OSh X) {x : Int32} (hq : ∀ S', S' 160 = (pourR X v x).2 → MF S S' → Q (pourR X v x).1 (lay Θ S')) : C Θ (d + 2) 0 0 yX12_pour cX12_pour 6 (some .int) [.ref (tb Θ + 159), .int x] 183 (lay Θ S) (Qi Q) := by
  refine C_of rfl rfl (Nat.le_of_ble_eq_true rfl) ?_
  refine E_iload_n dX12_pour_0 rfl ?_
  refine E_S1i sX12_202 dX12_pour_1 (Nat.le_of_ble_eq_true rfl) (s_X12_isSheet (fun g1 => ?_) (fun g1 => ?_))
  · obtain ⟨s, hs, es, is⟩ := ix_some (by omega) g1
    refine E_if_ne dX12_pour_4 (fun _ => ?_) (fun c => absurd c (by decide))
    refine E_aload_n dX12_pour_10 rfl ?_
    refine L_get fX12_54 dX12_pour_11 (by decide) sh_159 rfl ?_
    refine E_iload_n dX12_pour_14 rfl ?_
    refine L_iald (j := s) dX12_pour_15 (by decide) sh_174 es hs (by decide) ?_
    rw [(hX s hs).1]
    refine E_if_ge dX12_pour_16 (fun c16 => ?_) (fun c16 => ?_)
    · refine E_ic (v := 0) dX12_pour_22 (by decide) ?_
      refine E_istore_n dX12_pour_23 (by decide) ?_
      refine E_ic (v := 0) dX12_pour_24 (by decide) ?_
      refine E_istore_n dX12_pour_25 (by decide) ?_
      rw [pourR, is, Option.elim, if_neg (i_lt c16), hmm] at hq
      rw [es]
      exact E.loc (by exact ⟨rfl, rfl, rfl, rfl, trivial⟩) (l_X12_pour hs (oX s hs).2 hm9 (c := X.2.2 s) hm (min (X.2.1 s) m) S 0 0 0 rfl rfl (by omega) hv (hX s hs).2.1 (hX s hs).2.2 hq)
    · refine E_ldc dX12_pour_19 kX12_205 ?_
      refine E_iret dX12_pour_21 rfl rfl ?_
      rw [pourR, is, Option.elim, if_pos (i_nle c16)] at hq
      exact hq S hv MF.rf
  · have is := ix_none (by omega) g1
    refine E_if_ne dX12_pour_4 (fun c => absurd rfl c) (fun _ => ?_)
    refine E_ldc dX12_pour_7 kX12_107 ?_
    refine E_iret dX12_pour_9 rfl rfl ?_
    rw [pourR, is] at hq
    exact hq S hv MF.rf
theorem l_X11_pour {Q : Int32 → HP → Prop} {s n m : Nat} (hs : s < 4) (h24 : n ≤ 24) (hm9 : m ≤ 9) {c : Nat → Int32} (hm : v 1 = nI m) (hmm : mN v = m) {a1 : Int32} : ∀ (f : Nat) (S : SS) (x3 x4 : Int32) (p : Nat), x3 = nI (poV v c p).2 → x4 = nI p → p + f = min n m → WRep S 20 (poV v c p).1 → S (131 + 2 * s) 1 = nI n → (∀ k, k < 24 → S (131 + 2 * s + 1) k = c k) → (∀ S', WRep S' 20 (poV v c (min n m)).1 → WF 20 S S' → Q (nI (poV v c (min n m)).2) (lay Θ S')) → E Θ (d + 2) 0 0 yX11_pour cX11_pour 7 (some .int) 0 0 183 (lay Θ S) 32 [(4, .int x4), (3, .int x3), (2, .ref (tb Θ + (131 + 2 * s))), (1, .int a1), (0, .ref (tb Θ + 0))] [] (Qi Q) := by
  have hw : isW 20 := isW20
  intro f
  induction f with
  | zero =>
    intro S x3 x4 p hx3 hx4 hi hR hn hc hq
    have hm1 : (poV v c p).1 1 = nI m := (po_un p (fun q _ => by omega)).trans hm
    have hmp : mN (poV v c p).1 = m := mN_of hm1 hm9
    rcases (show m ≤ p ∨ n ≤ p by omega) with h | h
    · refine E_iload dX11_pour_32 rfl ?_
      refine E_aload_n dX11_pour_34 rfl ?_
      refine L_get fX11_83 dX11_pour_35 (by decide) sh_0 rfl ?_
      refine W_get (j := 1) (i := 1) hR hw (by decide) fX11_106 dX11_pour_38 ?_
      refine E_icmp_ge dX11_pour_41 (fun _ => ?_) (fun c => absurd (by rw [hm1, hx4]; exact nI_le h (by omega)) c)
      refine E_iload_n dX11_pour_120 rfl ?_
      refine E_iret dX11_pour_121 rfl rfl ?_
      obtain rfl : p = min n m := by omega
      rw [hx3]
      exact hq S hR WF.rf
    · refine E_iload dX11_pour_32 rfl ?_
      refine E_aload_n dX11_pour_34 rfl ?_
      refine L_get fX11_83 dX11_pour_35 (by decide) sh_0 rfl ?_
      refine W_get (j := 1) (i := 1) hR hw (by decide) fX11_106 dX11_pour_38 ?_
      refine E_icmp_ge dX11_pour_41 (fun c41 => ?_) (fun c41 => ?_)
      · refine E_iload_n dX11_pour_120 rfl ?_
        refine E_iret dX11_pour_121 rfl rfl ?_
        obtain rfl : p = min n m := by omega
        rw [hx3]
        exact hq S hR WF.rf
      · refine E_iload dX11_pour_44 rfl ?_
        refine E_aload_n dX11_pour_46 rfl ?_
        refine L_get fX11_297 dX11_pour_47 (by have := ((isR_s hs)).lt; omega) (sh_R (isR_s hs)) rfl ?_
        rw [hn]
        refine E_icmp_ge dX11_pour_50 (fun _ => ?_) (fun c => absurd (by rw [hx4]; exact nI_le h (by omega)) c)
        refine E_iload_n dX11_pour_120 rfl ?_
        refine E_iret dX11_pour_121 rfl rfl ?_
        obtain rfl : p = min n m := by omega
        rw [hx3]
        exact hq S hR WF.rf
  | succ f ih =>
    intro S x3 x4 p hx3 hx4 hi hR hn hc hq
    have hm1 : (poV v c p).1 1 = nI m := (po_un p (fun q _ => by omega)).trans hm
    have hmp : mN (poV v c p).1 = m := mN_of hm1 hm9
    refine E_iload dX11_pour_32 rfl ?_
    refine E_aload_n dX11_pour_34 rfl ?_
    refine L_get fX11_83 dX11_pour_35 (by decide) sh_0 rfl ?_
    refine W_get (j := 1) (i := 1) hR hw (by decide) fX11_106 dX11_pour_38 ?_
    refine E_icmp_ge dX11_pour_41 (fun c => absurd c (by rw [hm1]; exact ge_no (by omega) (by omega) hx4 (by omega))) (fun _ => ?_)
    refine E_iload dX11_pour_44 rfl ?_
    refine E_aload_n dX11_pour_46 rfl ?_
    refine L_get fX11_297 dX11_pour_47 (by have := ((isR_s hs)).lt; omega) (sh_R (isR_s hs)) rfl ?_
    rw [hn]
    refine E_icmp_ge dX11_pour_50 (fun c => absurd c (ge_no (by omega) (by omega) hx4 (by omega))) (fun _ => ?_)
    refine E_aload_n dX11_pour_53 rfl ?_
    refine L_get fX11_83 dX11_pour_54 (by decide) sh_0 rfl ?_
    refine L_get fX11_111 dX11_pour_57 (by have := (isW20).lt; omega) (sh_W isW20) rfl ?_
    refine E_iload dX11_pour_60 rfl ?_
    refine L_aald (j := p) dX11_pour_62 (by have := (isW20).lt; omega) (sh_Wc isW20) rfl hx4 (by omega) (by decide) (if_pos (by omega)) ?_
    refine E_astore dX11_pour_63 (by decide) ?_
    refine E_aload_n dX11_pour_65 rfl ?_
    refine E_iload dX11_pour_66 rfl ?_
    refine E_V1i vX11_300_5 dX11_pour_68 (Nat.le_of_ble_eq_true rfl) (by have := ((isR_s hs)).lt; omega) ((sh_R (isR_s hs)) _) (s_X5_isNumber (isR_s hs) hx4 (show p < 24 by omega) (fun gz => ?_) (fun gz => ?_))
    · have c63 : ¬ c p = nobody := fun e => gz ((hc p (by omega)).trans e)
      refine E_if_eq dX11_pour_71 (fun c => absurd c (by decide)) (fun _ => ?_)
      refine E_aload_n dX11_pour_74 rfl ?_
      refine L_get fX11_292 dX11_pour_75 (by have := ((isR_s hs)).lt; omega) (sh_R (isR_s hs)) rfl ?_
      refine E_iload dX11_pour_78 rfl ?_
      refine L_iald (j := p) dX11_pour_80 (by have := ((isR_s hs)).lt; omega) (sh_Rp (isR_s hs)) hx4 (by omega) (by decide) ?_
      rw [hc p (by omega)]
      refine E_S1i sX11_303 dX11_pour_81 (Nat.le_of_ble_eq_true rfl) (s_X11_held ?_)
      rw [held_clamp]
      refine E_goto dX11_pour_84 ?_
      refine E_istore dX11_pour_92 (by decide) ?_
      refine E_iload dX11_pour_94 rfl ?_
      refine E_aload dX11_pour_96 rfl ?_
      refine P_temp (p := p) hR hw hmp hm9 (show p < m by omega) fX11_132 dX11_pour_98 ?_
      refine E_icmp_eq dX11_pour_101 (fun c101 => ?_) (fun c101 => ?_)
      · refine E_iinc (v := 1) dX11_pour_114 rfl (by decide) (by decide) ?_
        refine E_goto dX11_pour_117 ?_
        have hto : (if c p = nobody then (poV v c p).1 (17 + 9 * p) else clampF (c p) 0 99) = clampF (c p) 0 99 := by rw [if_neg c63]
        exact E.loc (by exact ⟨rfl, rfl, rfl, rfl, rfl, trivial⟩) (ih S _ _ (p + 1) (by rw [po_skip (hto.trans c101)]; exact hx3) (by rw [hx4, nI_1]) (by omega) (by rw [po_skip (hto.trans c101)]; exact hR) hn hc hq)
      · refine E_aload dX11_pour_104 rfl ?_
        refine E_iload dX11_pour_106 rfl ?_
        refine P_put (p := p) (f := 2) hR hw hmp hm9 (show p < m by omega) (by decide) fX11_132 dX11_pour_108 (fun S108 h108 f108 => ?_)
        refine E_iinc (v := 1) dX11_pour_111 rfl (by decide) (by decide) ?_
        refine E_iinc (v := 1) dX11_pour_114 rfl (by decide) (by decide) ?_
        refine E_goto dX11_pour_117 ?_
        have hto : (if c p = nobody then (poV v c p).1 (17 + 9 * p) else clampF (c p) 0 99) = clampF (c p) 0 99 := by rw [if_neg c63]
        exact E.loc (by exact ⟨rfl, rfl, rfl, rfl, rfl, trivial⟩) (ih S108 _ _ (p + 1) (by rw [po_new (by rw [hto]; exact c101), hx3, nI_1]) (by rw [hx4, nI_1]) (by omega) (by rw [po_new (by rw [hto]; exact c101), hto]; exact WRep_eq h108 (by rw [show 15 + 9 * p + 2 = 17 + 9 * p by omega])) (by rw [f108 _ (by omega) (by omega)]; exact hn) (by rw [f108 _ (by omega) (by omega)]; exact hc) (fun S9 a9 b9 => hq S9 a9 (f108.tr b9)))
    · have c63 : c p = nobody := (hc p (by omega)).symm.trans gz
      refine E_if_eq dX11_pour_71 (fun _ => ?_) (fun c => absurd (by decide) c)
      refine E_aload dX11_pour_87 rfl ?_
      refine P_temp (p := p) hR hw hmp hm9 (show p < m by omega) fX11_132 dX11_pour_89 ?_
      refine E_istore dX11_pour_92 (by decide) ?_
      refine E_iload dX11_pour_94 rfl ?_
      refine E_aload dX11_pour_96 rfl ?_
      refine P_temp (p := p) hR hw hmp hm9 (show p < m by omega) fX11_132 dX11_pour_98 ?_
      refine E_icmp_eq dX11_pour_101 (fun _ => ?_) (fun c => absurd rfl c)
      refine E_iinc (v := 1) dX11_pour_114 rfl (by decide) (by decide) ?_
      refine E_goto dX11_pour_117 ?_
      have hto : (if c p = nobody then (poV v c p).1 (17 + 9 * p) else clampF (c p) 0 99) = (poV v c p).1 (17 + 9 * p) := by rw [if_pos c63]
      exact E.loc (by exact ⟨rfl, rfl, rfl, rfl, rfl, trivial⟩) (ih S _ _ (p + 1) (by rw [po_skip hto]; exact hx3) (by rw [hx4, nI_1]) (by omega) (by rw [po_skip hto]; exact hR) hn hc hq)
theorem s_X11_pour {Q : Int32 → HP → Prop} (hR : WRep S 20 v) {m : Nat} (hm : v 1 = nI m) (hmm : mN v = m) (hm9 : m ≤ 9) {X : SH} (hX : CSh S X) (oX : OSh X) {x : Int32} (hq : ∀ S', WRep S' 20 (pourR X v x).2 → WF 20 S S' → Q (pourR X v x).1 (lay Θ S')) : C Θ (d + 2) 0 0 yX11_pour cX11_pour 7 (some .int) [.ref (tb Θ + 0), .int x] 183 (lay Θ S) (Qi Q) := by
  refine C_of rfl rfl (Nat.le_of_ble_eq_true rfl) ?_
  refine E_iload_n dX11_pour_0 rfl ?_
  refine E_S1i sX11_237 dX11_pour_1 (Nat.le_of_ble_eq_true rfl) (s_X11_isSheet (fun g1 => ?_) (fun g1 => ?_))
  · obtain ⟨s, hs, es, is⟩ := ix_some (by omega) g1
    refine E_if_ne dX11_pour_4 (fun _ => ?_) (fun c => absurd c (by decide))
    refine E_aload_n dX11_pour_10 rfl ?_
    refine L_get fX11_30 dX11_pour_11 (by decide) sh_0 rfl ?_
    refine E_iload_n dX11_pour_14 rfl ?_
    refine L_aald (j := s) dX11_pour_15 (by decide) sh_5 rfl es hs (by decide) (if_pos hs) ?_
    refine E_astore_n dX11_pour_16 (by decide) ?_
    refine E_aload_n dX11_pour_17 rfl ?_
    refine E_V0i vX11_240_5 dX11_pour_18 (Nat.le_of_ble_eq_true rfl) (by have := ((isR_s hs)).lt; omega) ((sh_R (isR_s hs)) _) (s_X5_isMissing (isR_s hs) (fun gm => ?_) (fun gm => ?_))
    · have gm : X.1 s < 0 := (so_neg oX hs).mpr ((hX s hs).1.symm.trans gm)
      refine E_if_eq dX11_pour_21 (fun c => absurd c (by decide)) (fun _ => ?_)
      refine E_ldc dX11_pour_24 kX11_244 ?_
      refine E_iret dX11_pour_26 rfl rfl ?_
      rw [pourR, is, Option.elim, if_pos gm] at hq
      exact hq S hR WF.rf
    · have gm : ¬ X.1 s < 0 := fun h => gm ((hX s hs).1.trans ((so_neg oX hs).mp h))
      refine E_if_eq dX11_pour_21 (fun _ => ?_) (fun c => absurd (by decide) c)
      refine E_ic (v := 0) dX11_pour_27 (by decide) ?_
      refine E_istore_n dX11_pour_28 (by decide) ?_
      refine E_ic (v := 0) dX11_pour_29 (by decide) ?_
      refine E_istore dX11_pour_30 (by decide) ?_
      rw [pourR, is, Option.elim, if_neg gm, hmm] at hq
      exact E.loc (by exact ⟨rfl, rfl, rfl, rfl, rfl, trivial⟩) (l_X11_pour hs (oX s hs).2 hm9 (c := X.2.2 s) hm hmm (min (X.2.1 s) m) S 0 0 0 rfl rfl (by omega) hR (hX s hs).2.1 (hX s hs).2.2 hq)
  · have is := ix_none (by omega) g1
    refine E_if_ne dX11_pour_4 (fun c => absurd rfl c) (fun _ => ?_)
    refine E_ldc dX11_pour_7 kX11_105 ?_
    refine E_iret dX11_pour_9 rfl rfl ?_
    rw [pourR, is] at hq
    exact hq S hR WF.rf
theorem l_X12_reads {Q : Int32 → HP → Prop} (hv : S 160 = v) {m : Nat} (hm : v 1 = nI m) (hmm : mN v = m) (hm9 : m ≤ 9) {s n : Nat} (hs : s < 4) (h24 : n ≤ 24) {c : Nat → Int32} (hn : S 175 s = nI n) (hc : ∀ k, k < 24 → S 176 (24 * s + k) = c k) : ∀ (f : Nat) (x2 : Int32) (k : Nat), x2 = nI k → k + f = n → Q (reF v c f k) (lay Θ S) → E Θ (d + 2) 0 0 yX12_reads cX12_reads 4 (some .int) 0 0 183 (lay Θ S) 24 [(2, .int x2), (1, .int (nI s)), (0, .ref (tb Θ + 159))] [] (Qi Q) := by
  have hm1 : S 160 1 = nI m := by rw [hv]; exact hm
  intro f
  induction f with
  | zero =>
    intro x2 k hx2 hi hq
    refine E_iload_n dX12_reads_24 rfl ?_
    refine E_aload_n dX12_reads_25 rfl ?_
    refine L_get fX12_57 dX12_reads_26 (by decide) sh_159 rfl ?_
    refine E_iload_n dX12_reads_29 rfl ?_
    refine L_iald (j := s) dX12_reads_30 (by decide) sh_175 rfl hs (by decide) ?_
    rw [hn]
    refine E_icmp_ge dX12_reads_31 (fun _ => ?_) (fun c => absurd (by rw [hx2]; exact nI_le (by omega) (by omega)) c)
    refine E_ldc dX12_reads_78 kX12_136 ?_
    refine E_iret dX12_reads_80 rfl rfl ?_
    exact hq
  | succ f ih =>
    intro x2 k hx2 hi hq
    refine E_iload_n dX12_reads_24 rfl ?_
    refine E_aload_n dX12_reads_25 rfl ?_
    refine L_get fX12_57 dX12_reads_26 (by decide) sh_159 rfl ?_
    refine E_iload_n dX12_reads_29 rfl ?_
    refine L_iald (j := s) dX12_reads_30 (by decide) sh_175 rfl hs (by decide) ?_
    rw [hn]
    refine E_icmp_ge dX12_reads_31 (fun c => absurd c (ge_no (by omega) (by omega) hx2 (by omega))) (fun _ => ?_)
    refine E_aload_n dX12_reads_34 rfl ?_
    refine L_get fX12_60 dX12_reads_35 (by decide) sh_159 rfl ?_
    refine E_bipush (v := 24) dX12_reads_38 (by decide) ?_
    refine E_iload_n dX12_reads_40 rfl ?_
    refine E_imul dX12_reads_41 ?_
    refine E_iload_n dX12_reads_42 rfl ?_
    refine E_iadd dX12_reads_43 ?_
    refine L_iald (j := 24 * s + k) dX12_reads_44 (by decide) sh_176 (by rw [hx2]; exact ce_ix) (by omega) (by decide) ?_
    rw [hc k (by omega)]
    refine E_istore_n dX12_reads_45 (by decide) ?_
    refine E_iload_n dX12_reads_46 rfl ?_
    refine E_ldc dX12_reads_47 kX12_136 ?_
    refine E_icmp_eq dX12_reads_49 (fun c49 => ?_) (fun c49 => ?_)
    · refine E_iinc (v := 1) dX12_reads_72 rfl (by decide) (by decide) ?_
      refine E_goto dX12_reads_75 ?_
      rw [re_miss (fun h => h.1 c49)] at hq
      exact E.loc (by exact ⟨rfl, rfl, rfl, trivial⟩) (ih _ (k + 1) (by rw [hx2, nI_1]) (by omega) hq)
    · refine E_aload_n dX12_reads_52 rfl ?_
      refine E_iload_n dX12_reads_53 rfl ?_
      refine E_V1i vX12_112_12 dX12_reads_54 (Nat.le_of_ble_eq_true rfl) (by decide) (sh_159 _) (s_X12_isOne hm1 hm9 (fun gk => ?_) (fun gk => ?_))
      · have km : k < m := by
          obtain ⟨i, hi, e⟩ := gk
          rw [hx2] at e
          have := nI_inj (by omega) (by omega) e
          omega
        refine E_if_eq dX12_reads_57 (fun c => absurd c (by decide)) (fun _ => ?_)
        refine E_iload_n dX12_reads_60 rfl ?_
        refine E_aload_n dX12_reads_61 rfl ?_
        refine E_iload_n dX12_reads_62 rfl ?_
        refine E_ic (v := 1) dX12_reads_63 (by decide) ?_
        refine E_V2i vX12_85_12 dX12_reads_64 (Nat.le_of_ble_eq_true rfl) (by decide) (sh_159 _) (s_X12_of hv k 1 (16 + 9 * k) hx2 rfl (by omega) (by omega) ?_)
        refine E_icmp_eq dX12_reads_67 (fun c67 => ?_) (fun c67 => ?_)
        · refine E_iinc (v := 1) dX12_reads_72 rfl (by decide) (by decide) ?_
          refine E_goto dX12_reads_75 ?_
          rw [re_miss (fun h => h.2 ⟨by omega, c67⟩)] at hq
          exact E.loc (by exact ⟨rfl, rfl, rfl, trivial⟩) (ih _ (k + 1) (by rw [hx2, nI_1]) (by omega) hq)
        · refine E_iload_n dX12_reads_70 rfl ?_
          refine E_iret dX12_reads_71 rfl rfl ?_
          rw [re_hit ⟨c49, fun h => c67 h.2⟩] at hq
          rw [hx2]
          exact hq
      · have km : ¬ k < m := fun h => gk ⟨k, h, hx2⟩
        refine E_if_eq dX12_reads_57 (fun _ => ?_) (fun c => absurd (by decide) c)
        refine E_iload_n dX12_reads_70 rfl ?_
        refine E_iret dX12_reads_71 rfl rfl ?_
        rw [re_hit ⟨c49, fun h => km (hmm ▸ h.1)⟩] at hq
        rw [hx2]
        exact hq
theorem s_X12_reads {Q : Int32 → HP → Prop} (hv : S 160 = v) {m : Nat} (hm : v 1 = nI m) (hmm : mN v = m) (hm9 : m ≤ 9) {X : SH} (hX : RSh S X) (oX : OSh X) {x : Int32} (hq : Q (readsR X v x) (lay Θ S)) : C Θ (d + 2) 0 0 yX12_reads cX12_reads 4 (some .int) [.ref (tb Θ + 159), .int x] 183 (lay Θ S) (Qi Q) := by
  refine C_of rfl rfl (Nat.le_of_ble_eq_true rfl) ?_
  refine E_iload_n dX12_reads_0 rfl ?_
  refine E_S1i sX12_202 dX12_reads_1 (Nat.le_of_ble_eq_true rfl) (s_X12_isSheet (fun g1 => ?_) (fun g1 => ?_))
  · obtain ⟨s, hs, es, is⟩ := ix_some (by omega) g1
    refine E_if_ne dX12_reads_4 (fun _ => ?_) (fun c => absurd c (by decide))
    refine E_aload_n dX12_reads_10 rfl ?_
    refine L_get fX12_54 dX12_reads_11 (by decide) sh_159 rfl ?_
    refine E_iload_n dX12_reads_14 rfl ?_
    refine L_iald (j := s) dX12_reads_15 (by decide) sh_174 es hs (by decide) ?_
    rw [(hX s hs).1]
    refine E_if_ge dX12_reads_16 (fun c16 => ?_) (fun c16 => ?_)
    · refine E_ic (v := 0) dX12_reads_22 (by decide) ?_
      refine E_istore_n dX12_reads_23 (by decide) ?_
      rw [readsR, is, Option.elim, if_neg (i_lt c16)] at hq
      rw [es]
      exact E.loc (by exact ⟨rfl, rfl, rfl, trivial⟩) (l_X12_reads hv hm hmm hm9 hs (oX s hs).2 (c := X.2.2 s) (hX s hs).2.1 (hX s hs).2.2 (X.2.1 s) 0 0 rfl (by omega) hq)
    · refine E_ldc dX12_reads_19 kX12_205 ?_
      refine E_iret dX12_reads_21 rfl rfl ?_
      rw [readsR, is, Option.elim, if_pos (i_nle c16)] at hq
      exact hq
  · have is := ix_none (by omega) g1
    refine E_if_ne dX12_reads_4 (fun c => absurd rfl c) (fun _ => ?_)
    refine E_ldc dX12_reads_7 kX12_107 ?_
    refine E_iret dX12_reads_9 rfl rfl ?_
    rw [readsR, is] at hq
    exact hq
theorem l_X11_reads {Q : Int32 → HP → Prop} (hR : WRep S 20 v) {m : Nat} (hm : v 1 = nI m) (hmm : mN v = m) (hm9 : m ≤ 9) {s n : Nat} (hs : s < 4) (h24 : n ≤ 24) {c : Nat → Int32} (hn : S (131 + 2 * s) 1 = nI n) (hc : ∀ k, k < 24 → S (131 + 2 * s + 1) k = c k) {a1 : Int32} : ∀ (f : Nat) (x3 : Int32) (k : Nat), x3 = nI k → k + f = n → Q (reF v c f k) (lay Θ S) → E Θ (d + 2) 0 0 yX11_reads cX11_reads 5 (some .int) 0 0 183 (lay Θ S) 29 [(3, .int x3), (2, .ref (tb Θ + (131 + 2 * s))), (1, .int a1), (0, .ref (tb Θ + 0))] [] (Qi Q) := by
  have hw : isW 20 := isW20
  have hm1 : S 20 1 = nI m := (hR.1 (1, 1) (by decide)).trans hm
  intro f
  induction f with
  | zero =>
    intro x3 k hx3 hi hq
    refine E_iload_n dX11_reads_29 rfl ?_
    refine E_aload_n dX11_reads_30 rfl ?_
    refine L_get fX11_297 dX11_reads_31 (by have := ((isR_s hs)).lt; omega) (sh_R (isR_s hs)) rfl ?_
    rw [hn]
    refine E_icmp_ge dX11_reads_34 (fun _ => ?_) (fun c => absurd (by rw [hx3]; exact nI_le (by omega) (by omega)) c)
    refine E_ldc dX11_reads_94 kX11_181 ?_
    refine E_iret dX11_reads_96 rfl rfl ?_
    exact hq
  | succ f ih =>
    intro x3 k hx3 hi hq
    refine E_iload_n dX11_reads_29 rfl ?_
    refine E_aload_n dX11_reads_30 rfl ?_
    refine L_get fX11_297 dX11_reads_31 (by have := ((isR_s hs)).lt; omega) (sh_R (isR_s hs)) rfl ?_
    rw [hn]
    refine E_icmp_ge dX11_reads_34 (fun c => absurd c (ge_no (by omega) (by omega) hx3 (by omega))) (fun _ => ?_)
    refine E_aload_n dX11_reads_37 rfl ?_
    refine E_iload_n dX11_reads_38 rfl ?_
    refine E_V1i vX11_118_11 dX11_reads_39 (Nat.le_of_ble_eq_true rfl) (by decide) (sh_0 _) (s_X11_isOne hm1 hm9 (fun gk => ?_) (fun gk => ?_))
    · have km : k < m := by
        obtain ⟨i, hi, e⟩ := gk
        rw [hx3] at e
        have := nI_inj (by omega) (by omega) e
        omega
      refine E_if_eq dX11_reads_42 (fun c => absurd c (by decide)) (fun _ => ?_)
      refine E_aload_n dX11_reads_45 rfl ?_
      refine L_get fX11_292 dX11_reads_46 (by have := ((isR_s hs)).lt; omega) (sh_R (isR_s hs)) rfl ?_
      refine E_iload_n dX11_reads_49 rfl ?_
      refine L_iald (j := k) dX11_reads_50 (by have := ((isR_s hs)).lt; omega) (sh_Rp (isR_s hs)) hx3 (by omega) (by decide) ?_
      rw [hc k (by omega)]
      refine E_aload_n dX11_reads_51 rfl ?_
      refine L_get fX11_83 dX11_reads_52 (by decide) sh_0 rfl ?_
      refine L_get fX11_111 dX11_reads_55 (by have := (isW20).lt; omega) (sh_W isW20) rfl ?_
      refine E_iload_n dX11_reads_58 rfl ?_
      refine L_aald (j := k) dX11_reads_59 (by have := (isW20).lt; omega) (sh_Wc isW20) rfl hx3 (by omega) (by decide) (if_pos (by omega)) ?_
      refine P_bank (p := k) hR hw hmm hm9 km fX11_129 dX11_reads_60 ?_
      refine E_icmp_ne dX11_reads_63 (fun c63 => ?_) (fun c63 => ?_)
      · refine E_ic (v := 0) dX11_reads_70 (by decide) ?_
        refine E_istore dX11_reads_71 (by decide) ?_
        refine E_aload_n dX11_reads_73 rfl ?_
        refine E_iload_n dX11_reads_74 rfl ?_
        refine E_V1i vX11_300_5 dX11_reads_75 (Nat.le_of_ble_eq_true rfl) (by have := ((isR_s hs)).lt; omega) ((sh_R (isR_s hs)) _) (s_X5_isNumber (isR_s hs) hx3 (show k < 24 by omega) (fun gz => ?_) (fun gz => ?_))
        · have c49 : ¬ c k = nobody := fun e => gz ((hc k (by omega)).trans e)
          refine E_if_eq dX11_reads_78 (fun c => absurd c (by decide)) (fun _ => ?_)
          refine E_iload dX11_reads_81 rfl ?_
          refine E_if_ne dX11_reads_83 (fun c => absurd rfl c) (fun _ => ?_)
          refine E_iload_n dX11_reads_86 rfl ?_
          refine E_iret dX11_reads_87 rfl rfl ?_
          rw [re_hit ⟨c49, fun h => c63 h.2⟩] at hq
          rw [hx3]
          exact hq
        · have c49 : c k = nobody := (hc k (by omega)).symm.trans gz
          refine E_if_eq dX11_reads_78 (fun _ => ?_) (fun c => absurd (by decide) c)
          refine E_iinc (v := 1) dX11_reads_88 rfl (by decide) (by decide) ?_
          refine E_goto dX11_reads_91 ?_
          rw [re_miss (fun h => h.1 c49)] at hq
          exact E.loc (by exact ⟨rfl, rfl, rfl, rfl, trivial⟩) (ih _ (k + 1) (by rw [hx3, nI_1]) (by omega) hq)
      · refine E_ic (v := 1) dX11_reads_66 (by decide) ?_
        refine E_goto dX11_reads_67 ?_
        refine E_istore dX11_reads_71 (by decide) ?_
        refine E_aload_n dX11_reads_73 rfl ?_
        refine E_iload_n dX11_reads_74 rfl ?_
        refine E_V1i vX11_300_5 dX11_reads_75 (Nat.le_of_ble_eq_true rfl) (by have := ((isR_s hs)).lt; omega) ((sh_R (isR_s hs)) _) (s_X5_isNumber (isR_s hs) hx3 (show k < 24 by omega) (fun gz => ?_) (fun gz => ?_))
        · have c49 : ¬ c k = nobody := fun e => gz ((hc k (by omega)).trans e)
          refine E_if_eq dX11_reads_78 (fun c => absurd c (by decide)) (fun _ => ?_)
          refine E_iload dX11_reads_81 rfl ?_
          refine E_if_ne dX11_reads_83 (fun _ => ?_) (fun c => absurd c (by decide))
          refine E_iinc (v := 1) dX11_reads_88 rfl (by decide) (by decide) ?_
          refine E_goto dX11_reads_91 ?_
          rw [re_miss (fun h => h.2 ⟨by omega, c63⟩)] at hq
          exact E.loc (by exact ⟨rfl, rfl, rfl, rfl, trivial⟩) (ih _ (k + 1) (by rw [hx3, nI_1]) (by omega) hq)
        · have c49 : c k = nobody := (hc k (by omega)).symm.trans gz
          refine E_if_eq dX11_reads_78 (fun _ => ?_) (fun c => absurd (by decide) c)
          refine E_iinc (v := 1) dX11_reads_88 rfl (by decide) (by decide) ?_
          refine E_goto dX11_reads_91 ?_
          rw [re_miss (fun h => h.1 c49)] at hq
          exact E.loc (by exact ⟨rfl, rfl, rfl, rfl, trivial⟩) (ih _ (k + 1) (by rw [hx3, nI_1]) (by omega) hq)
    · have km : ¬ k < m := fun h => gk ⟨k, h, hx3⟩
      refine E_if_eq dX11_reads_42 (fun _ => ?_) (fun c => absurd (by decide) c)
      refine E_ic (v := 0) dX11_reads_70 (by decide) ?_
      refine E_istore dX11_reads_71 (by decide) ?_
      refine E_aload_n dX11_reads_73 rfl ?_
      refine E_iload_n dX11_reads_74 rfl ?_
      refine E_V1i vX11_300_5 dX11_reads_75 (Nat.le_of_ble_eq_true rfl) (by have := ((isR_s hs)).lt; omega) ((sh_R (isR_s hs)) _) (s_X5_isNumber (isR_s hs) hx3 (show k < 24 by omega) (fun gz => ?_) (fun gz => ?_))
      · have c49 : ¬ c k = nobody := fun e => gz ((hc k (by omega)).trans e)
        refine E_if_eq dX11_reads_78 (fun c => absurd c (by decide)) (fun _ => ?_)
        refine E_iload dX11_reads_81 rfl ?_
        refine E_if_ne dX11_reads_83 (fun c => absurd rfl c) (fun _ => ?_)
        refine E_iload_n dX11_reads_86 rfl ?_
        refine E_iret dX11_reads_87 rfl rfl ?_
        rw [re_hit ⟨c49, fun h => km (hmm ▸ h.1)⟩] at hq
        rw [hx3]
        exact hq
      · have c49 : c k = nobody := (hc k (by omega)).symm.trans gz
        refine E_if_eq dX11_reads_78 (fun _ => ?_) (fun c => absurd (by decide) c)
        refine E_iinc (v := 1) dX11_reads_88 rfl (by decide) (by decide) ?_
        refine E_goto dX11_reads_91 ?_
        rw [re_miss (fun h => h.1 c49)] at hq
        exact E.loc (by exact ⟨rfl, rfl, rfl, rfl, trivial⟩) (ih _ (k + 1) (by rw [hx3, nI_1]) (by omega) hq)
theorem s_X11_reads {Q : Int32 → HP → Prop} (hR : WRep S 20 v) {m : Nat} (hm : v 1 = nI m) (hmm : mN v = m) (hm9 : m ≤ 9) {X : SH} (hX : CSh S X) (oX : OSh X) {x : Int32} (hq : Q (readsR X v x) (lay Θ S)) : C Θ (d + 2) 0 0 yX11_reads cX11_reads 5 (some .int) [.ref (tb Θ + 0), .int x] 183 (lay Θ S) (Qi Q) := by
  refine C_of rfl rfl (Nat.le_of_ble_eq_true rfl) ?_
  refine E_iload_n dX11_reads_0 rfl ?_
  refine E_S1i sX11_237 dX11_reads_1 (Nat.le_of_ble_eq_true rfl) (s_X11_isSheet (fun g1 => ?_) (fun g1 => ?_))
  · obtain ⟨s, hs, es, is⟩ := ix_some (by omega) g1
    refine E_if_ne dX11_reads_4 (fun _ => ?_) (fun c => absurd c (by decide))
    refine E_aload_n dX11_reads_10 rfl ?_
    refine L_get fX11_30 dX11_reads_11 (by decide) sh_0 rfl ?_
    refine E_iload_n dX11_reads_14 rfl ?_
    refine L_aald (j := s) dX11_reads_15 (by decide) sh_5 rfl es hs (by decide) (if_pos hs) ?_
    refine E_astore_n dX11_reads_16 (by decide) ?_
    refine E_aload_n dX11_reads_17 rfl ?_
    refine E_V0i vX11_240_5 dX11_reads_18 (Nat.le_of_ble_eq_true rfl) (by have := ((isR_s hs)).lt; omega) ((sh_R (isR_s hs)) _) (s_X5_isMissing (isR_s hs) (fun gm => ?_) (fun gm => ?_))
    · have gm : X.1 s < 0 := (so_neg oX hs).mpr ((hX s hs).1.symm.trans gm)
      refine E_if_eq dX11_reads_21 (fun c => absurd c (by decide)) (fun _ => ?_)
      refine E_ldc dX11_reads_24 kX11_244 ?_
      refine E_iret dX11_reads_26 rfl rfl ?_
      rw [readsR, is, Option.elim, if_pos gm] at hq
      exact hq
    · have gm : ¬ X.1 s < 0 := fun h => gm ((hX s hs).1.trans ((so_neg oX hs).mp h))
      refine E_if_eq dX11_reads_21 (fun _ => ?_) (fun c => absurd (by decide) c)
      refine E_ic (v := 0) dX11_reads_27 (by decide) ?_
      refine E_istore_n dX11_reads_28 (by decide) ?_
      rw [readsR, is, Option.elim, if_neg gm] at hq
      exact E.loc (by exact ⟨rfl, rfl, rfl, rfl, trivial⟩) (l_X11_reads hR hm hmm hm9 hs (oX s hs).2 (c := X.2.2 s) (hX s hs).2.1 (hX s hs).2.2 (X.2.1 s) 0 0 rfl (by omega) hq)
  · have is := ix_none (by omega) g1
    refine E_if_ne dX11_reads_4 (fun c => absurd rfl c) (fun _ => ?_)
    refine E_ldc dX11_reads_7 kX11_105 ?_
    refine E_iret dX11_reads_9 rfl rfl ?_
    rw [readsR, is] at hq
    exact hq
end Po
