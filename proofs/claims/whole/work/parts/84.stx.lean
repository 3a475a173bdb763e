/-! all that is known of the constants -/
theorem stx_of {s : State} {b : Nat} (h : (Jvm.Cond.and given_1 narrow_1).before #[Value.ref b] s = true) (hts : ∀ w ∈ lw_tbl, w.before #[Value.ref b] s = true) : ∃ (adK adV : Nat → Nat) (fv : Value), (fv = .null ∨ ∃ a, fv = .ref a) ∧ ∀ Θ : Th, tb Θ = s.heap.size → STX adK adV fv Θ s s.heap := by
  have hs := flat_of_before _ h
  have hA : ∀ a : Nat, a < s.heap.size → ¬ (fun q => s.heap.size ≤ q) a := fun a ha => Nat.not_le.mpr ha
  obtain ⟨adK, adV, hS, hev⟩ := strs_of h hA
  have wr_ : ∀ i : Fin 6, Cond.stringRef RX7 (scp.getD i.val 0) (stx.getD i.val "") ∈ lw_tbl := by decide +kernel
  have hR : ∀ i, i < 6 → vk_R RX7 (scp.getD i 0) (stx.getD i "") (adK i) s := fun i hi => vk_R.of (hts _ (wr_ ⟨i, hi⟩)) (hev i hi)
  have hZ : va_Z "java/lang/String" "COMPACT_STRINGS" "Z" (.int 1) (fun q => s.heap.size ≤ q) s s.heap := va_Zof (args := #[Value.ref b]) (hts _ (by decide +kernel)) (hts _ (by decide +kernel)) (va_eqt (hs _ (by decide +kernel))) hA
  have hF : va_Zq "jdk/internal/util/Preconditions" "SIOOBE_FORMATTER" "Ljava/util/function/BiFunction;" (fun q => s.heap.size ≤ q) s s.heap := va_Zqof (args := #[Value.ref b]) (hts _ (by decide +kernel)) (hts _ (by decide +kernel)) (hs _ (by decide +kernel)) hA
  rcases hF with hF | ⟨a, hF⟩
  · refine ⟨adK, adV, .null, Or.inl rfl, fun Θ hb => ?_⟩
    unfold STX AA
    rw [hb]
    exact ⟨hS, hR, hZ, hF⟩
  · refine ⟨adK, adV, .ref a, Or.inr ⟨a, rfl⟩, fun Θ hb => ?_⟩
    unfold STX AA
    rw [hb]
    exact ⟨hS, hR, hZ, hF⟩
