/-! a world with one text more is well -/
section Ti
variable {v : WV} {t i a : Nat} {L : List Int32}
theorem paOk.lo {v u : WV} {p : Nat} (h : ∀ j, 15 ≤ j → j < 96 → u j = v j) (hp : p < 9) (ok : paOk v p) : paOk u p := by
  obtain ⟨a1, a2, a3, a4⟩ := ok
  refine ⟨?_, ?_, ?_, fun j hj => ?_⟩
  · rw [kdF, h _ (by omega) (by omega)]; exact a1
  · rw [tmF, h _ (by omega) (by omega)]; exact a2
  · rw [h _ (by omega) (by omega)]; exact a3
  · rw [vwF, h _ (by omega) (by omega)]; exact a4 j hj
theorem dpF_congr {f g : Nat → Int32} : ∀ k, (∀ j, j < k → f j = g j) → dpF f k = dpF g k
  | 0, _ => rfl
  | k + 1, h => by rw [dpF, dpF, dpF_congr k (fun j hj => h j (by omega)), h k (by omega)]
theorem tV_ok' {t' : Nat} (ht : t < 14) (h : t' < t) (ok : txOk v t') : txOk (tV v t i L a) t' := by
  obtain ⟨a1, a2, a3, a4, a5⟩ := ok
  have hln : lnF (tV v t i L a) t' = lnF v t' := tV_ln' ht h
  have hd : ∀ k, k ≤ lnF v t' → dpF (cdF (tV v t i L a) t') k = dpF (cdF v t') k := fun k hk => dpF_congr k (fun j hj => tV_cd' ht h (by omega))
  refine ⟨by rw [hln]; exact a1, by rw [hln]; exact a2, by rw [hln, hd _ (Nat.le_refl _)]; exact a3, fun k hk => ?_, ?_⟩
  · rw [hln] at hk
    rw [hd k hk]
    exact a4 k hk
  · rw [hln, tV_old (by omega) (by omega) (by omega) (by omega)]
    exact a5
theorem tV_okn {n : Nat} (ht : t < 14) (hi : i < 3) (hl : L.length ≤ 96) (h1 : dpL L = some 1) (h2 : okL a L) (h3 : 2 * a + 2 ≤ n) (hn : n ≤ 96) : txOk (tV v t i L a) t := by
  have hcd : ∀ k, k < L.length → cdF (tV v t i L a) t k = lkL L k := fun k hk => tV_cd hk
  have hz : 1 ≤ L.length := by
    cases L with
    | nil => cases h1
    | cons x r => simp only [List.length_cons]; omega
  refine ⟨by rw [tV_ln ht hi hl]; exact hz, by rw [tV_ln ht hi hl]; exact hl, by rw [tV_ln ht hi hl, lk_dp L hcd]; exact h1, fun k hk => ?_, ?_⟩
  · rw [tV_ln ht hi hl] at hk
    obtain ⟨q, e, l⟩ := lk_ok L hcd h2 k hk
    exact ⟨q, e, by omega⟩
  · rw [tV_ln ht hi hl, tV_key ht]
    exact (ky_div ⟨i, hi⟩ ⟨L.length, by omega⟩).2.2
theorem IV.text {n : Nat} (iv : IV v) (ht : t < 14) (h14 : v 14 = nI t) (hi : i < 3) (hl : L.length ≤ 96) (h1 : dpL L = some 1) (h2 : okL a L) (h3 : 2 * a + 2 ≤ n) (hn : n ≤ 96) : IV (tV v t i L a) := by
  obtain ⟨⟨m, m9, e1, hp⟩, a5, ⟨w, w30, e6, hw⟩, a3, a4, tn, t14, e14, hok⟩ := iv
  have et : tn = t := nI_inj (by omega) (by omega) (e14.symm.trans h14)
  subst et
  refine ⟨⟨m, m9, ?_, fun p hp' => (hp p hp').lo (fun j g1 g2 => tV_lo g2 (by omega)) (by omega)⟩, ?_, ⟨w, w30, ?_, ?_⟩, ?_, ?_, tn + 1, by omega, tV_14, fun k hk => ?_⟩
  · rw [tV_lo (by decide) (by decide)]; exact e1
  · rw [tV_lo (by decide) (by decide)]; exact a5
  · rw [tV_lo (by decide) (by decide)]; exact e6
  · rw [tV_mN, tV_lo (by decide) (by decide), tV_lo (by decide) (by decide), tV_lo (by decide) (by decide)]; exact hw
  · rw [tV_lo (by decide) (by decide)]; exact a3
  · rw [tV_lo (by decide) (by decide)]; exact a4
  · by_cases e : k = tn
    · rw [e]
      exact tV_okn ht hi hl h1 h2 h3 hn
    · exact tV_ok' ht (by omega) (hok k (by omega))
theorem TxK.text (iv : IV v) (hK : TxK v) (ht : t < 14) (h14 : v 14 = nI t) (hi : i < 3) (hl : L.length ≤ 96) (h5 : cOk i L) : TxK (tV v t i L a) := by
  intro t' h
  rw [tV_tN ht] at h
  by_cases e : t' = t
  · subst e
    rw [tV_div ht hi hl, tV_ln ht hi hl]
    refine ⟨⟨i, hi, rfl⟩, fun z k hk => ?_⟩
    rw [cdF, tV_cd hk]
    exact (h5 _ (lkL_mem L k hk)).2.2 (fun y => z (by rw [y]; rfl))
  · have h' : t' < t := by omega
    have htn : t' < tN v := by rw [tN, h14, nI_clamp (by omega)]; exact h'
    obtain ⟨b1, b2⟩ := hK t' htn
    obtain ⟨tn, t14, e14, hok⟩ := iv.2.2.2.2.2
    have et : tn = t := nI_inj (by omega) (by omega) (e14.symm.trans h14)
    have h96 := (hok t' (by omega)).2.1
    rw [tV_ln' ht h', tV_old (j := 96 + 2 * t') (by omega) (by omega) (by omega) (by omega)]
    exact ⟨b1, fun z k hk => by rw [tV_cd' ht h' (by omega)]; exact b2 z k hk⟩
end Ti
