/-! a world stays well, whatever is asked of it -/
def vOk (v u : WV) : Prop := IV u ∧ (∀ k, k = 14 ∨ 96 ≤ k → u k = v k) ∧ tmO u 9999
theorem ix_lt {x : Int32} {n p : Nat} (hn : n < 2 ^ 31) (h : ix x n = some p) : p < n ∧ x = nI p := by
  unfold ix at h
  by_cases c : 0 ≤ x ∧ x < nI n
  · rw [if_pos c] at h
    obtain ⟨i, hi, rfl⟩ := ix_of (i_lt c.1) c.2 hn
    rw [nI_clamp (by omega)] at h
    cases h
    exact ⟨hi, rfl⟩
  · rw [if_neg c] at h
    cases h
theorem vOk.rf {v : WV} (iv : IV v) (tm : tmO v 9999) : vOk v v := ⟨iv, fun _ _ => rfl, tm⟩
theorem tmO.eq {v u : WV} {K : Nat} (tm : tmO v K) (h2 : u 2 = v 2) (h10 : u 10 = v 10) : tmO u K := by
  obtain ⟨k, c, a, b, e, f⟩ := tm
  exact ⟨k, c, h2.trans a, h10.trans b, e, f⟩
theorem vOk.of {v u : WV} (tm : tmO v 9999) (iv : IV u) (h : ∀ k, k = 2 ∨ k = 10 ∨ k = 14 ∨ 96 ≤ k → u k = v k) : vOk v u := ⟨iv, fun k hk => h k (Or.inr (Or.inr hk)), tm.eq (h 2 (Or.inl rfl)) (h 10 (Or.inr (Or.inl rfl)))⟩
theorem vOk.up {v : WV} {j : Nat} {x : Int32} (tm : tmO v 9999) (iv : IV (upd v j x)) (h1 : j ≠ 2) (h2 : j ≠ 10) (h3 : j ≠ 14) (h4 : j < 96) : vOk v (upd v j x) := vOk.of tm iv (fun k hk => pk_un (by omega))
theorem mn_iv {v : WV} (iv : IV v) : ∃ m, m ≤ 9 ∧ v 1 = nI m ∧ mN v = m ∧ ∀ p, p < m → paOk v p := by
  obtain ⟨m, hm9, hm, hpa⟩ := iv.1
  exact ⟨m, hm9, hm, by rw [mN, hm, nI_clamp (by omega)], hpa⟩
theorem b7 {b : Int32} (h1 : -3 ≤ b) (h2 : b ≤ 3) : ∃ q, q < 7 ∧ b = nI q - 3 := by
  have e1 : (-3 : Int) ≤ b.toInt := Int32.le_iff_toInt_le.mp h1
  have e2 : b.toInt ≤ 3 := Int32.le_iff_toInt_le.mp h2
  rcases (show b.toInt = -3 ∨ b.toInt = -2 ∨ b.toInt = -1 ∨ b.toInt = 0 ∨ b.toInt = 1 ∨ b.toInt = 2 ∨ b.toInt = 3 by omega) with e | e | e | e | e | e | e
  · exact ⟨0, by omega, Int32.toInt_inj.mp (e.trans (by decide))⟩
  · exact ⟨1, by omega, Int32.toInt_inj.mp (e.trans (by decide))⟩
  · exact ⟨2, by omega, Int32.toInt_inj.mp (e.trans (by decide))⟩
  · exact ⟨3, by omega, Int32.toInt_inj.mp (e.trans (by decide))⟩
  · exact ⟨4, by omega, Int32.toInt_inj.mp (e.trans (by decide))⟩
  · exact ⟨5, by omega, Int32.toInt_inj.mp (e.trans (by decide))⟩
  · exact ⟨6, by omega, Int32.toInt_inj.mp (e.trans (by decide))⟩
theorem le_ix {b : Int32} {n : Nat} (h1 : 0 ≤ b) (h2 : b ≤ nI n) (hn : n < 2 ^ 31) : ∃ t, t ≤ n ∧ b = nI t := by
  obtain ⟨j, hj, rfl⟩ := nI_of (i_lt h1)
  exact ⟨j, (nI_leI hj hn).mp h2, rfl⟩
theorem IV.ic {v u : WV} {m : Nat} (h : IV v) (hmm : mN v = m) (hu : IC u m) (e6 : u 6 = v 6) (e7 : u 7 = v 7) (e8 : u 8 = v 8) (e9 : u 9 = v 9) : IV u := by
  obtain ⟨-, w, h1, h2, h3⟩ := h.m hmm
  refine IV_iff.mpr ⟨m, hu, w, h1, e6.trans h2, fun h0 => ?_⟩
  obtain ⟨q, r, j, a1, a2, a3, a4, a5, a6⟩ := h3 h0
  exact ⟨q, r, j, a1, a2, a3, e7.trans a4, e8.trans a5, e9.trans a6⟩
section Stays
variable {v : WV} {x z b : Int32}
theorem ok_one (iv : IV v) (tm : tmO v 9999) : vOk v (oneR v x z).2 := by
  obtain ⟨m, hm9, hm, hmm, hpa⟩ := mn_iv iv
  unfold oneR
  cases h1 : ix x 6 with
  | none => exact vOk.rf iv tm
  | some c =>
    cases h2 : ix z 2 with
    | none => exact vOk.rf iv tm
    | some e =>
      obtain ⟨c6, rfl⟩ := ix_lt (by decide) h1
      obtain ⟨e2, rfl⟩ := ix_lt (by decide) h2
      simp only [Option.elim]
      by_cases h9 : mN v = 9
      · rw [if_pos h9]
        exact vOk.rf iv tm
      · rw [if_neg h9]
        exact vOk.of tm (iv.come hmm (by omega) c6 (by omega)) (fun k hk => co_un hmm (by omega) (by omega))
theorem ok_bel (iv : IV v) (tm : tmO v 9999) : vOk v (belR v x z b).2 := by
  obtain ⟨m, hm9, hm, hmm, hpa⟩ := mn_iv iv
  unfold belR
  rw [hmm]
  cases h1 : ix x m with
  | none => exact vOk.rf iv tm
  | some p =>
    cases h2 : ix z 6 with
    | none => exact vOk.rf iv tm
    | some j =>
      obtain ⟨hp, -⟩ := ix_lt (by omega) h1
      obtain ⟨hj, -⟩ := ix_lt (by decide) h2
      simp only [Option.elim]
      by_cases c : -3 ≤ b ∧ b ≤ 3
      · rw [if_pos c]
        obtain ⟨q, hq, rfl⟩ := b7 c.1 c.2
        exact vOk.up tm (iv.ic hmm ((iv.m hmm).1.view hp hj hq) (pk_un (by omega)) (pk_un (by omega)) (pk_un (by omega)) (pk_un (by omega))) (by omega) (by omega) (by omega) (by omega)
      · rw [if_neg c]
        exact vOk.rf iv tm
theorem ok_turns (iv : IV v) (tm : tmO v 9999) : vOk v (turnsR v x z).2 := by
  obtain ⟨m, hm9, hm, hmm, hpa⟩ := mn_iv iv
  unfold turnsR
  rw [hmm]
  cases h1 : ix x m with
  | none => exact vOk.rf iv tm
  | some p =>
    cases h2 : ix z 6 with
    | none => exact vOk.rf iv tm
    | some j =>
      obtain ⟨hp, -⟩ := ix_lt (by omega) h1
      obtain ⟨hj, -⟩ := ix_lt (by decide) h2
      exact vOk.up tm (iv.kind hmm hp hj) (by omega) (by omega) (by omega) (by omega)
theorem ok_set (iv : IV v) (tm : tmO v 9999) : vOk v (setR v x z b).2 := by
  obtain ⟨m, hm9, hm, hmm, hpa⟩ := mn_iv iv
  unfold setR
  rw [hmm]
  cases h1 : ix x m with
  | none => exact vOk.rf iv tm
  | some p =>
    obtain ⟨hp, -⟩ := ix_lt (by omega) h1
    simp only [Option.elim]
    by_cases c1 : z = 1
    · rw [if_pos c1]
      by_cases c2 : 0 ≤ b ∧ b ≤ 1
      · rw [if_pos c2]
        by_cases c3 : v (16 + 9 * p) = 2
        · rw [if_pos c3]
          exact vOk.rf iv tm
        · rw [if_neg c3]
          obtain ⟨t, ht, rfl⟩ := le_ix (n := 1) c2.1 c2.2 (by decide)
          exact vOk.up tm (iv.ic hmm ((iv.m hmm).1.bank hp (by omega)) (pk_un (by omega)) (pk_un (by omega)) (pk_un (by omega)) (pk_un (by omega))) (by omega) (by omega) (by omega) (by omega)
      · rw [if_neg c2]
        exact vOk.rf iv tm
    · rw [if_neg c1]
      by_cases c4 : z = 2
      · rw [if_pos c4]
        by_cases c5 : 0 ≤ b ∧ b ≤ 99
        · rw [if_pos c5]
          obtain ⟨t, ht, rfl⟩ := le_ix (n := 99) c5.1 c5.2 (by decide)
          exact vOk.up tm (iv.temper hmm hp (by omega)) (by omega) (by omega) (by omega) (by omega)
        · rw [if_neg c5]
          exact vOk.rf iv tm
      · rw [if_neg c4]
        exact vOk.rf iv tm
theorem IV.wind {n : Nat} (h : IV v) (hn : n < 10) : IV (upd v 3 (nI n)) := by
  obtain ⟨⟨m, m9, e1, hp⟩, a5, ⟨w, w30, e6, hw⟩, a3, a4, tn, t14, e14, hok⟩ := h
  refine ⟨⟨m, m9, by rw [pk_un (by omega)]; exact e1, fun p hp' => (hp p hp').congr (fun k _ _ => pk_un (by omega))⟩, by rw [pk_un (by omega)]; exact a5, ⟨w, w30, by rw [pk_un (by omega)]; exact e6, ?_⟩, ⟨n, hn, pk_us⟩, by rw [pk_un (by omega)]; exact a4, tn, t14, by rw [pk_un (by omega)]; exact e14, fun i hi => (hok i hi).hi (fun k hk => pk_un (by omega))⟩
  rw [mN_upd (by omega), pk_un (by omega), pk_un (by omega), pk_un (by omega)]
  exact hw
theorem ok_rule (iv : IV v) (tm : tmO v 9999) : vOk v (ruleR v x b).2 := by
  unfold ruleR
  by_cases c : x = 0 ∧ 0 ≤ b ∧ b ≤ 9
  · rw [if_pos c]
    obtain ⟨t, ht, rfl⟩ := le_ix (n := 9) c.2.1 c.2.2 (by decide)
    exact vOk.up tm (iv.wind (by omega)) (by omega) (by omega) (by omega) (by omega)
  · rw [if_neg c]
    by_cases e : x = 1 ∧ 1 ≤ b ∧ b ≤ 99
    · rw [if_pos e]
      obtain ⟨t, ht, rfl⟩ := le_ix (n := 99) (Int32.le_trans (by decide) e.2.1) e.2.2 (by decide)
      have h1 : 1 ≤ t := (nI_leI (a := 1) (by decide) (by omega)).mp e.2.1
      exact vOk.up tm (iv.lim h1 (by omega)) (by omega) (by omega) (by omega) (by omega)
    · rw [if_neg e]
      exact vOk.rf iv tm
theorem ok_deal (iv : IV v) (tm : tmO v 9999) : vOk v (dealR v x).2 := by
  obtain ⟨m, hm9, hm, hmm, hpa⟩ := mn_iv iv
  unfold dealR
  by_cases c : 1 ≤ x ∧ x ≤ 9
  · rw [if_pos c]
    obtain ⟨a, -, e⟩ := dlN_ok (n := min x.toNatClampNeg (9 - mN v)) iv hmm hm (by omega)
    exact vOk.of tm a e
  · rw [if_neg c]
    exact vOk.rf iv tm
theorem ok_seed (iv : IV v) (tm : tmO v 9999) : vOk v (upd v 0 x) := vOk.up tm (iv.low (by omega) (by omega) (by omega) (by omega) (by omega) (by omega) (by omega) (by omega) (by omega) (by omega)) (by omega) (by omega) (by omega) (by omega)
theorem wa_10 : waV v 10 = v 10 := by
  have hid : idV v 10 = v 10 := by rw [idV, pk_un (by omega), pk_un (by omega)]
  unfold waV
  cases nxA v (v 5) 0 with
  | none => exact hid
  | some p =>
    simp only
    cases nxA v (v 5) (p + 1) with
    | none => exact hid
    | some o =>
      simp only
      rw [pk_un (by omega), drawV, pk_un (by omega), goV, pk_un (by omega), pk_un (by omega), pk_un (by omega), pk_un (by omega), pk_un (by omega)]
theorem qu_10 {p o j : Nat} : quV v p o j 10 = v 10 ∨ quV v p o j 10 = v 10 + 2 := by
  rw [quV]
  have e10 : q3V v p o j 10 = v 10 := q3_un (by omega) (by omega) (by omega)
  rw [← e10]
  generalize q3V v p o j = w
  rw [quE]
  by_cases c1 : w 4 ≤ tmF w p + tmF w o
  · rw [if_pos c1, to_10, pk_un (by omega), pk_un (by omega), pk_un (by omega)]
    exact Or.inl rfl
  · rw [if_neg c1]
    by_cases c2 : 30 ≤ w 6
    · rw [if_pos c2, to_10, pk_us]
      exact Or.inr rfl
    · rw [if_neg c2]
      by_cases c3 : w 6 ≤ 0
      · rw [if_pos c3, to_10, pk_un (by omega)]
        exact Or.inl rfl
      · rw [if_neg c3]
        left
        by_cases c4 : apV (q4V w p o j) p o j = 0
        · rw [if_pos c4, pk_un (by omega), drawV, pk_un (by omega), q4V, pk_un (by omega), pk_un (by omega)]
        · rw [if_neg c4, q4V, pk_un (by omega), pk_un (by omega)]
theorem mi_10 : miV v 10 = v 10 ∨ miV v 10 = v 10 + 2 := by
  simp only [miV]
  rw [pk_un (by omega)]
  by_cases c : v 6 = 0
  · rw [if_pos c]
    exact Or.inl wa_10
  · rw [if_neg c]
    exact qu_10
theorem miN_10 {c : Nat} (h : v 10 = nI c) : ∀ n, ∃ c', c' ≤ c + 2 * n ∧ miN v n 10 = nI c'
  | 0 => ⟨c, by omega, h⟩
  | n + 1 => by
    obtain ⟨c', h1, h2⟩ := miN_10 h n
    rw [miN]
    rcases mi_10 (v := miN v n) with e | e
    · exact ⟨c', by omega, e.trans h2⟩
    · refine ⟨c' + 2, by omega, ?_⟩
      rw [e, h2]
      exact nI_add c' 2
theorem ok_minutes (iv : IV v) (tm : tmO v 9999) : vOk v (minutesR v x).2 := by
  unfold minutesR
  by_cases c : 1 ≤ x ∧ x ≤ 100
  · rw [if_pos c]
    obtain ⟨k, q, a1, a2, a3, a4⟩ := tm
    obtain ⟨n, hn, rfl⟩ := le_ix (n := 100) (Int32.le_trans (by decide) c.1) c.2 (by decide)
    rw [a1, cl_min a4 hn, nI_clamp (by omega)]
    refine ⟨IV_miN iv _, fun k hk => miN_un iv (by omega) _, k + min (9999 - k) n, ?_⟩
    obtain ⟨c', h1, h2⟩ := miN_10 a2 (min (9999 - k) n)
    exact ⟨c', miN_2 iv a1 _, h2, by omega, by omega⟩
  · rw [if_neg c]
    exact vOk.rf iv tm
theorem ok_pour {X : SH} (iv : IV v) (tm : tmO v 9999) : vOk v (pourR X v x).2 := by
  obtain ⟨m, hm9, hm, hmm, hpa⟩ := mn_iv iv
  unfold pourR
  rw [hmm]
  cases h1 : ix x 4 with
  | none => exact vOk.rf iv tm
  | some s =>
    simp only [Option.elim]
    by_cases c : X.1 s < 0
    · rw [if_pos c]
      exact vOk.rf iv tm
    · rw [if_neg c]
      exact vOk.of tm (po_iv iv hmm _ (by omega)) (fun k hk => po_un _ (fun q hq => by omega))
end Stays
