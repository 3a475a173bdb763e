/-! a world with one text more: what it is -/
section Tv
variable {v : WV} {t i a : Nat} {L : List Int32}
theorem tV_14 : tV v t i L a 14 = nI (t + 1) := by rw [tV, pk_us]
theorem tV_lo {j : Nat} (h : j < 96) (h' : j ≠ 14) : tV v t i L a j = v j := by
  rw [tV, pk_un h', cpV, if_neg (by omega), pk_un (by omega), pk_un (by omega)]
theorem tV_old {j : Nat} (h1 : 96 ≤ j) (h2 : j ≠ 96 + 2 * t) (h3 : j ≠ 97 + 2 * t) (h4 : ¬ (124 + 96 * t ≤ j ∧ j < 124 + 96 * t + L.length)) : tV v t i L a j = v j := by
  rw [tV, pk_un (by omega), cpV, if_neg h4, pk_un h3, pk_un h2]
theorem tV_key (ht : t < 14) : tV v t i L a (96 + 2 * t) = nI (1000 * i + L.length) := by
  rw [tV, pk_un (by omega), cpV, if_neg (by omega), pk_un (by omega), pk_us]
theorem tV_at (ht : t < 14) : tV v t i L a (97 + 2 * t) = nI a := by
  rw [tV, pk_un (by omega), cpV, if_neg (by omega), pk_us]
theorem tV_cd {k : Nat} (hk : k < L.length) : tV v t i L a (124 + 96 * t + k) = lkL L k := by
  rw [tV, pk_un (by omega), cpV, if_pos (by omega), show 124 + 96 * t + k - (124 + 96 * t) = k by omega]
theorem tV_tN (ht : t < 14) : tN (tV v t i L a) = t + 1 := by rw [tN, tV_14, nI_clamp (by omega)]
theorem tV_mN : mN (tV v t i L a) = mN v := by rw [mN, mN, tV_lo (by decide) (by decide)]
theorem ky_div : ∀ (i : Fin 3) (l : Fin 97), nI (1000 * i.val + l.val) / 1000 = nI i.val ∧ (nI (1000 * i.val + l.val) - nI (1000 * i.val + l.val) / 1000 * 1000).toNatClampNeg = l.val ∧ nI (1000 * i.val + l.val) = nI (1000 * i.val + l.val) / 1000 * 1000 + nI l.val := by decide +kernel
theorem tV_div (ht : t < 14) (hi : i < 3) (hl : L.length ≤ 96) : tV v t i L a (96 + 2 * t) / 1000 = nI i := by
  rw [tV_key ht]
  exact (ky_div ⟨i, hi⟩ ⟨L.length, by omega⟩).1
theorem tV_ln (ht : t < 14) (hi : i < 3) (hl : L.length ≤ 96) : lnF (tV v t i L a) t = L.length := by
  rw [lnF, tV_key ht]
  exact (ky_div ⟨i, hi⟩ ⟨L.length, by omega⟩).2.1
theorem tV_ln' {t' : Nat} (ht : t < 14) (h : t' < t) : lnF (tV v t i L a) t' = lnF v t' := by
  rw [lnF, lnF, tV_old (by omega) (by omega) (by omega) (by omega)]
theorem tV_cd' {t' k : Nat} (ht : t < 14) (h : t' < t) (hk : k < 96) : cdF (tV v t i L a) t' k = cdF v t' k := by
  rw [cdF, cdF]
  exact tV_old (by omega) (by omega) (by omega) (by omega)
theorem tV_law {key : Int32} (ht : t < 14) (hi : i < 3) (hl : L.length ≤ 96) (h14 : v 14 = nI t) : lawF (tV v t i L a) key = if nI i = key then nI t else lawF v key := by
  rw [lawF, tV_tN ht, cntF, tV_div ht hi hl, lawF, show tN v = t by rw [tN, h14, nI_clamp (by omega)]]
  by_cases c : nI i = key
  · rw [if_pos c, if_pos c]
  · rw [if_neg c, if_neg c]
    exact cnt_congr t (fun j hj => tV_old (by omega) (by omega) (by omega) (by omega))
theorem lk_map {f : Int32 → Int32} : ∀ (L : List Int32) (k : Nat), k < L.length → lkL (L.map f) k = f (lkL L k)
  | [], k, h => absurd h (Nat.not_lt_zero _)
  | x :: r, k, h => by
    simp only [List.length_cons] at h
    rw [List.map_cons, lkL, lkL, List.length_map]
    by_cases c : k = r.length
    · rw [if_pos c, if_pos c]
    · rw [if_neg c, if_neg c]
      exact lk_map r k (by omega)
theorem lk_dp {f : Nat → Int32} : ∀ (L : List Int32), (∀ k, k < L.length → f k = lkL L k) → dpF f L.length = dpL L
  | [], _ => rfl
  | x :: r, h => by
    have hx : f r.length = x := by
      rw [h r.length (by simp only [List.length_cons]; omega), lkL, if_pos rfl]
    have ih := lk_dp (f := f) r (fun k hk => by
      rw [h k (by simp only [List.length_cons]; omega), lkL, if_neg (by omega)])
    rw [List.length_cons, dpF, dpL, ih, hx]
    rfl
theorem lk_ok {f : Nat → Int32} {m : Nat} : ∀ (L : List Int32), (∀ k, k < L.length → f k = lkL L k) → okL m L → ∀ k, k ≤ L.length → ∃ q, dpF f k = some q ∧ q ≤ m
  | [], _, _, k, hk => ⟨0, by rw [show k = 0 from Nat.le_zero.mp hk]; rfl, Nat.zero_le _⟩
  | x :: r, h, ho, k, hk => by
    by_cases c : k = (x :: r).length
    · obtain ⟨-, q, e, l⟩ := ho
      exact ⟨q, by rw [c, lk_dp (x :: r) h]; exact e, l⟩
    · refine lk_ok r (fun j hj => ?_) ho.1 k (by simp only [List.length_cons] at hk c; omega)
      rw [h j (by simp only [List.length_cons]; omega), lkL, if_neg (by omega)]
theorem lkL_mem : ∀ (L : List Int32) (k : Nat), k < L.length → lkL L k ∈ L
  | [], k, h => absurd h (Nat.not_lt_zero _)
  | x :: r, k, h => by
    simp only [List.length_cons] at h
    rw [lkL]
    by_cases c : k = r.length
    · rw [if_pos c]; exact List.mem_cons_self
    · rw [if_neg c]; exact List.mem_cons_of_mem _ (lkL_mem r k (by omega))
/-- the class's new world stands for it -/
theorem WRep.text {S S' : SS} {w : Nat} (hR : WRep S w v) (ht : t < 14) (hi : i < 3) (hl : L.length ≤ 96) (h14 : v 14 = nI t) (hm : mN v ≤ 9) (h1 : ∀ j, j ≠ 13 → S' w j = S w j) (h2 : S' w 13 = nI (t + 1)) (h3 : ∀ c, S' (w + 3) c = if c = i then nI t else S (w + 3) c) (h4 : ∀ k, (k = w + 2 ∨ (w + 4 ≤ k ∧ k < w + 22)) → S' k = S k) : WRep S' w (tV v t i L a) := by
  refine ⟨fun q hq => ?_, fun j hj => ?_, fun c hc => ?_, fun p hp => ?_⟩
  · by_cases c : q.1 = 13
    · have c2 : q.2 = 14 := (wm_inj q hq (13, 14) (by decide)).mp c
      rw [c, c2, h2, tV_14]
    · have c2 : q.2 ≠ 14 := fun z => c ((wm_inj q hq (13, 14) (by decide)).mpr z)
      have := wm_lt q hq
      rw [h1 q.1 c, tV_lo (by omega) c2]
      exact hR.1 q hq
  · rw [h4 (w + 2) (Or.inl rfl), tV_lo (by omega) (by omega)]
    exact hR.2.1 j hj
  · rw [h3, tV_law ht hi hl h14]
    by_cases e : c = i
    · rw [if_pos e, if_pos (by rw [e])]
    · rw [if_neg e, if_neg (fun z => e (nI_inj (by omega) (by omega) z).symm)]
      exact hR.2.2.1 c hc
  · rw [tV_mN] at hp
    obtain ⟨a1, a2, a3, a4⟩ := hR.2.2.2 p hp
    refine ⟨?_, ?_, ?_, fun j hj => ?_⟩
    · rw [h4 _ (Or.inr (by omega)), tV_lo (by omega) (by omega)]; exact a1
    · rw [h4 _ (Or.inr (by omega)), tV_lo (by omega) (by omega)]; exact a2
    · rw [h4 _ (Or.inr (by omega)), tV_lo (by omega) (by omega)]; exact a3
    · rw [h4 _ (Or.inr (by omega)), tV_lo (by omega) (by omega)]; exact a4 j hj
/-- and its texts for the texts -/
theorem TRep.text {S S' : SS} (hT : TRep S v) (ok : ∀ t', t' < t → lnF v t' ≤ 96) (ht : t < 14) (hi : i < 3) (hl : L.length ≤ 96) (h14 : v 14 = nI t) (hc : CPS S' t L a) (hk : S' (86 + 3 * t) 1 = nI i) (hf : ∀ t', t' < t → S' (86 + 3 * t') = S (86 + 3 * t') ∧ S' (86 + 3 * t' + 1) = S (86 + 3 * t' + 1)) : TRep S' (tV v t i L a) := by
  intro t' h
  rw [tV_tN ht] at h
  by_cases e : t' = t
  · subst e
    rw [tV_div ht hi hl, tV_at ht, tV_ln ht hi hl]
    refine ⟨hk, hc.2.2, hc.1, fun k hk' => ?_⟩
    rw [cdF, tV_cd hk', hc.2.1.lk k (by rw [List.length_map]; exact hk'), lk_map L k hk']
  · have h' : t' < t := by omega
    obtain ⟨f1, f2⟩ := hf t' h'
    obtain ⟨b1, b2, b3, b4⟩ := hT t' (by rw [tN, h14, nI_clamp (by omega)]; exact h')
    rw [f1, f2, tV_ln' ht h', tV_old (j := 96 + 2 * t') (by omega) (by omega) (by omega) (by omega), tV_old (j := 97 + 2 * t') (by omega) (by omega) (by omega) (by omega)]
    refine ⟨b1, b2, b3, fun k hk' => ?_⟩
    have := ok t' h'
    rw [tV_cd' ht h' (by omega)]
    exact b4 k hk'
end Tv
