/-! a minute keeps a world well -/
theorem clamp_ix (x : Int32) : ∃ t, t < 100 ∧ clampF x 0 99 = nI t := by
  unfold clampF
  by_cases c1 : x < 0
  · rw [if_pos c1]
    exact ⟨0, by omega, rfl⟩
  · rw [if_neg c1]
    by_cases c2 : 99 < x
    · rw [if_pos c2]
      exact ⟨99, by omega, rfl⟩
    · rw [if_neg c2]
      obtain ⟨j, hj, rfl⟩ := nI_of c1
      exact ⟨j, by have := (nI_leI hj (by omega)).mp (show nI j ≤ nI 99 from i_nlt c2); omega, rfl⟩
theorem sh_fin2 : ∀ a b : Fin 7, ∃ q : Fin 7, shF 2 (nI a.val - 3) (nI b.val - 3) = nI q.val - 3 := by decide +kernel
theorem sh_fin0 : ∀ a b : Fin 7, ∃ q : Fin 7, (if (nI a.val - 3 : Int32) < nI b.val - 3 then nI a.val - 3 + 1 else if (nI b.val - 3 : Int32) < nI a.val - 3 then nI a.val - 3 - 1 else nI a.val - 3) = nI q.val - 3 := by decide +kernel
theorem sh_ix {kind own that : Int32} (h1 : ∃ a, a < 7 ∧ own = nI a - 3) (h2 : ∃ b, b < 7 ∧ that = nI b - 3) : ∃ q, q < 7 ∧ shF kind own that = nI q - 3 := by
  obtain ⟨a, ha, rfl⟩ := h1
  obtain ⟨b, hb, rfl⟩ := h2
  by_cases k2 : kind = 2
  · subst k2
    obtain ⟨q, hq⟩ := sh_fin2 ⟨a, ha⟩ ⟨b, hb⟩
    exact ⟨q.val, q.isLt, hq⟩
  · by_cases k3 : kind = 3
    · exact ⟨b, hb, by simp [shF, k3]⟩
    · by_cases k4 : kind = 4
      · exact ⟨a, ha, by simp [shF, k4]⟩
      · by_cases k5 : kind = 5
        · exact ⟨a, ha, by simp [shF, k5]⟩
        · obtain ⟨q, hq⟩ := sh_fin0 ⟨a, ha⟩ ⟨b, hb⟩
          refine ⟨q.val, q.isLt, ?_⟩
          rw [shF, if_neg k2, if_neg k3, if_neg k4, if_neg k5]
          exact hq
theorem one_sub {b : Nat} (hb : b < 2) : ∃ c, c < 2 ∧ (1 : Int32) - nI b = nI c := ⟨1 - b, by omega, pk_sub (a := 1) (by omega)⟩
theorem IC.to {v : WV} {m p o b : Nat} (h : IC v m) (hp : p < m) (ho : o < m) (hb : b < 2) : IC (toV v p o (nI b)) m :=
  (((h.bank hp (by omega)).bank ho (by omega)).boat hb).low (by omega) (by omega) (by omega) (by omega) (by omega) (by omega)
theorem toV_way {v : WV} {m p o : Nat} {b : Int32} : IWy (toV v p o b) m := ⟨0, by omega, pk_us, fun h => absurd h (by omega)⟩
theorem IC.go {v : WV} {m p o : Nat} (h : IC v m) (hp : p < m) (ho : o < m) : IC (goV v p o) m :=
  ((((h.bank hp (t := 2) (by omega)).bank ho (t := 2) (by omega)).low (by omega) (by omega) (by omega) (by omega) (by omega) (by omega)).low (by omega) (by omega) (by omega) (by omega) (by omega) (by omega)).low (by omega) (by omega) (by omega) (by omega) (by omega) (by omega)
theorem IC.draw {v : WV} {m : Nat} (h : IC v m) : IC (drawV v) m := h.low (by omega) (by omega) (by omega) (by omega) (by omega) (by omega)
theorem IC.q1 {v : WV} {m p o j : Nat} (h : IC v m) : IC (q1V v p o j) m := h.low (by omega) (by omega) (by omega) (by omega) (by omega) (by omega)
theorem IC.q2 {v : WV} {m p o j : Nat} (h : IC v m) (hp : p < m) : IC (q2V v p o j) m := by
  obtain ⟨t, ht, e⟩ := clamp_ix (tmF v p + htV v p o j)
  rw [q2V, e]
  exact h.temper hp ht
theorem IC.q4 {v : WV} {m p o j : Nat} (h : IC v m) (hp : p < m) (ho : o < m) (hj : j < 6) : IC (q4V v p o j) m := by
  have vp := (h.1.2.2 p hp).2.2.2 j hj
  have vo := (h.1.2.2 o ho).2.2.2 j hj
  obtain ⟨a, ha, ea⟩ := sh_ix (kind := kdF v o) vo vp
  obtain ⟨b, hb, eb⟩ := sh_ix (kind := kdF v p) vp vo
  rw [q4V, shV, shV, ea, eb]
  exact (h.view ho hj ha).view hp hj hb
theorem IV_wa {v : WV} (h : IV v) : IV (waV v) := by
  obtain ⟨m, hc, hw⟩ := IV_iff.mp h
  have hmm : mN v = m := by rw [mN, hc.1.2.1, nI_clamp (by have := hc.1.1; omega)]
  have hid : IV (idV v) := by
    obtain ⟨b, hb, e⟩ := hc.2.1
    obtain ⟨c, hc2, e2⟩ := one_sub hb
    refine IV_iff.mpr ⟨m, ?_, ?_⟩
    · rw [idV, e, e2]
      exact (hc.low (by omega) (by omega) (by omega) (by omega) (by omega) (by omega)).boat hc2
    · obtain ⟨w, h1, h2, h3⟩ := hw
      refine ⟨w, h1, by rw [idV, pk_un (by omega), pk_un (by omega)]; exact h2, fun hw0 => ?_⟩
      obtain ⟨p, o, j, a1, a2, a3, a4, a5, a6⟩ := h3 hw0
      exact ⟨p, o, j, a1, a2, a3, by rw [idV, pk_un (by omega), pk_un (by omega)]; exact a4, by rw [idV, pk_un (by omega), pk_un (by omega)]; exact a5, by rw [idV, pk_un (by omega), pk_un (by omega)]; exact a6⟩
  unfold waV
  rcases h1 : nxA v (v 5) 0 with _ | p
  · exact hid
  · simp only
    rcases h2 : nxA v (v 5) (p + 1) with _ | o
    · exact hid
    · simp only
      have hp := nxA_lt h1
      have ho := nxA_lt h2
      rw [hmm] at hp ho
      have hm9 := hc.1.1
      obtain ⟨j, hj, ej⟩ := rem6_ix (goV v p o)
      refine IV_iff.mpr ⟨m, (hc.go hp.2.1 ho.2.1).draw.low (by omega) (by omega) (by omega) (by omega) (by omega) (by omega), 1, by omega, ?_, fun _ => ⟨p, o, j, by omega, ho.2.1, hj, ?_, ?_, ?_⟩⟩
      · rw [pk_un (by omega), drawV, pk_un (by omega), goV]
        exact pk_us
      · rw [pk_un (by omega), drawV, pk_un (by omega), goV, pk_un (by omega), pk_un (by omega), pk_us, if_pos (nI_lt (by omega) (by omega))]
      · rw [pk_un (by omega), drawV, pk_un (by omega), goV, pk_un (by omega), pk_us, if_pos (nI_lt (by omega) (by omega))]
      · rw [ej]
        exact pk_us
theorem q3_un {v : WV} {p o j k : Nat} (h6 : k ≠ 6) (h1 : k ≠ 17 + 9 * p) (h2 : k ≠ 17 + 9 * o) : q3V v p o j k = v k := by
  rw [q3V, q2V, pk_un h2, q2V, pk_un h1, q1V, pk_un h6]
theorem IV_qu {v : WV} {m p o j : Nat} (hc : IC v m) (hpo : p < o) (ho : o < m) (hj : j < 6) (h7 : v 7 = nI p) (h8 : v 8 = nI o) (h9 : v 9 = nI j) : IV (quV v p o j) := by
  have hp : p < m := by omega
  have hm9 := hc.1.1
  have hu : IC (q3V v p o j) m := (hc.q1.q2 hp).q2 ho
  have u7 : q3V v p o j 7 = nI p := by rw [q3_un (by omega) (by omega) (by omega)]; exact h7
  have u8 : q3V v p o j 8 = nI o := by rw [q3_un (by omega) (by omega) (by omega)]; exact h8
  have u9 : q3V v p o j 9 = nI j := by rw [q3_un (by omega) (by omega) (by omega)]; exact h9
  rw [quV]
  generalize q3V v p o j = u at hu u7 u8 u9
  obtain ⟨b, hb, e5⟩ := hu.2.1
  obtain ⟨c, hc2, e2⟩ := one_sub hb
  rw [quE]
  by_cases c1 : u 4 ≤ tmF u p + tmF u o
  · rw [if_pos c1, e5]
    exact IV_iff.mpr ⟨m, (((hu.low (by omega) (by omega) (by omega) (by omega) (by omega) (by omega)).temper hp (t := 0) (by omega)).temper ho (t := 0) (by omega)).to hp ho hb, toV_way⟩
  · rw [if_neg c1]
    by_cases c2 : 30 ≤ u 6
    · rw [if_pos c2, e5, e2]
      exact IV_iff.mpr ⟨m, (hu.low (by omega) (by omega) (by omega) (by omega) (by omega) (by omega)).to hp ho hc2, toV_way⟩
    · rw [if_neg c2]
      by_cases c3 : u 6 ≤ 0
      · rw [if_pos c3, e5]
        exact IV_iff.mpr ⟨m, (hu.low (by omega) (by omega) (by omega) (by omega) (by omega) (by omega)).to hp ho hb, toV_way⟩
      · rw [if_neg c3]
        obtain ⟨w, hw, ew⟩ := nI_of (x := u 6) (fun h => c3 (Int32.le_of_lt h))
        have hw30 : w < 30 := by
          rw [ew] at c2
          exact (nI_ltI hw (by omega)).mp (show nI w < nI 30 from i_nle c2)
        have g : ∀ k, k < 15 → q4V u p o j k = u k := fun k hk => by rw [q4V, pk_un (by omega), pk_un (by omega)]
        have hq := hu.q4 hp ho hj
        by_cases c4 : apV (q4V u p o j) p o j = 0
        · rw [if_pos c4]
          obtain ⟨i, hi, ei⟩ := rem6_ix (q4V u p o j)
          refine IV_iff.mpr ⟨m, hq.draw.low (by omega) (by omega) (by omega) (by omega) (by omega) (by omega), w, hw30, ?_, fun _ => ⟨p, o, i, hpo, ho, hi, ?_, ?_, ?_⟩⟩
          · rw [pk_un (by omega), drawV, pk_un (by omega), g 6 (by omega)]; exact ew
          · rw [pk_un (by omega), drawV, pk_un (by omega), g 7 (by omega)]; exact u7
          · rw [pk_un (by omega), drawV, pk_un (by omega), g 8 (by omega)]; exact u8
          · rw [ei]; exact pk_us
        · rw [if_neg c4]
          exact IV_iff.mpr ⟨m, hq, w, hw30, by rw [g 6 (by omega)]; exact ew, fun _ => ⟨p, o, j, hpo, ho, hj, by rw [g 7 (by omega)]; exact u7, by rw [g 8 (by omega)]; exact u8, by rw [g 9 (by omega)]; exact u9⟩⟩
theorem IV.low {v : WV} {j : Nat} {x : Int32} (h : IV v) (hj : j < 15) (h1 : j ≠ 1) (h3 : j ≠ 3) (h4 : j ≠ 4) (h5 : j ≠ 5) (h14 : j ≠ 14) (h6 : j ≠ 6) (h7 : j ≠ 7) (h8 : j ≠ 8) (h9 : j ≠ 9) : IV (upd v j x) := by
  obtain ⟨m, hc, w, hw, ew, hw2⟩ := IV_iff.mp h
  refine IV_iff.mpr ⟨m, hc.low hj h1 h3 h4 h5 h14, w, hw, by rw [pk_un (Ne.symm h6)]; exact ew, fun h0 => ?_⟩
  obtain ⟨p, o, i, a1, a2, a3, a4, a5, a6⟩ := hw2 h0
  exact ⟨p, o, i, a1, a2, a3, by rw [pk_un (Ne.symm h7)]; exact a4, by rw [pk_un (Ne.symm h8)]; exact a5, by rw [pk_un (Ne.symm h9)]; exact a6⟩
theorem IV_mi {v : WV} (h : IV v) : IV (miV v) := by
  unfold miV
  refine IV.low ?_ (by omega) (by omega) (by omega) (by omega) (by omega) (by omega) (by omega) (by omega) (by omega) (by omega)
  by_cases c : v 6 = 0
  · rw [if_pos c]
    exact IV_wa h
  · rw [if_neg c]
    obtain ⟨m, hc, w, hw, ew, hw2⟩ := IV_iff.mp h
    obtain ⟨p, o, j, a1, a2, a3, a4, a5, a6⟩ := hw2 (way_pos ew c)
    have hm9 := hc.1.1
    rw [a4, a5, a6, nI_clamp (by omega), nI_clamp (by omega), nI_clamp (by omega)]
    exact IV_qu hc a1 a2 a3 a4 a5 a6
theorem IV_miN {v : WV} (h : IV v) : ∀ n, IV (miN v n)
  | 0 => h
  | n + 1 => IV_mi (IV_miN h n)
