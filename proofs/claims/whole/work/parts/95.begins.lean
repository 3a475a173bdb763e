/-! all stands at the beginning -/
theorem b_hi0 : hi0 (S0 160) := by
  intro k hk
  show upd (upd (upd (fun _ => 0) 0 1) 3 1) 4 40 k = 0
  rw [pk_un (by omega), pk_un (by omega), pk_un (by omega)]
theorem b_m : mN (S0 160) = 0 := by decide
theorem b_t : tN (S0 160) = 0 := by decide
theorem b_iv : IV (S0 160) := ⟨⟨0, by omega, by decide, fun p hp => absurd hp (by omega)⟩, ⟨0, by omega, by decide⟩, ⟨0, by omega, by decide, fun h => absurd h (by omega)⟩, ⟨1, by omega, by decide⟩, ⟨40, by omega, by omega, by decide⟩, 0, by omega, by decide, fun i hi => absurd hi (by omega)⟩
theorem b_w : WRep S0 20 (S0 160) := by
  refine ⟨by decide +kernel, by decide +kernel, by decide +kernel, fun p hp => ?_⟩
  rw [b_m] at hp
  exact absurd hp (by omega)
theorem b_W : JW S0 := by
  refine ⟨b_w, fun t ht => ?_, b_iv, fun t ht => ?_, ⟨0, 0, by decide, by decide, by omega, by omega⟩, b_hi0⟩
  · rw [b_t] at ht
    exact absurd ht (by omega)
  · rw [b_t] at ht
    exact absurd ht (by omega)
theorem b_S : JS S0 := by
  refine ⟨(fun _ => -1, fun _ => 0, fun _ _ => 0), ?_, ?_, fun s hs => ⟨Or.inl rfl, Nat.zero_le _⟩⟩
  · unfold CSh
    decide +kernel
  · unfold RSh
    decide +kernel
theorem b_L : JL S0 := by
  refine ⟨(fun _ => 0, fun _ => 0, fun _ => 0, fun _ _ => 0), fun i hi => ⟨?_, fun e => absurd (show (0 : Int32) = 1 from e) (by decide), fun e => absurd (show (0 : Int32) = 2 from e) (by decide), fun e => absurd (show (0 : Int32) = 3 from e) (by decide)⟩, ?_, fun i hi => ⟨⟨0, by omega, rfl⟩, fun e => absurd (show (0 : Int32) = 2 from e) (by decide)⟩⟩
  · rfl
  · unfold RSl
    decide +kernel
theorem b_K : KYS S0 := by
  refine ⟨by decide +kernel, fun i k hi hk => ?_⟩
  have w : ∀ i : Fin 3, ∀ k : Fin (lnS.getD i.val 0), S0 167 (katL.getD i.val 0 + k.val) = sby i.val k.val := by decide +kernel
  exact w ⟨i, hi⟩ ⟨k, hk⟩
theorem b_J : JJ S0 := ⟨b_W, ⟨fun _ _ => rfl, by decide, Or.inl (by decide)⟩, ⟨0, by omega, by decide, by decide, fun k hk => absurd hk (by omega), fun k hk => absurd hk (by omega)⟩, b_S, b_L, ⟨0, by omega, by decide, by decide, fun q hq => absurd hq (by omega)⟩, by unfold JN; decide +kernel, b_K⟩
