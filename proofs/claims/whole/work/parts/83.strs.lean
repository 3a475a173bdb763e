/-! the constants, from what is given -/
theorem strs_of {s : State} {b : Nat} (h : (Jvm.Cond.and given_1 narrow_1).before #[Value.ref b] s = true) {A : Nat → Prop} (hA : ∀ a : Nat, a < s.heap.size → ¬ A a) : ∃ adK adV : Nat → Nat, vk_S 6 lnS bySt adK adV A s s.heap ∧ ∀ i : Nat, i < 6 → (Term.string RX7 (scp.getD i 0)).eval #[Value.ref b] s none [] s = some (.ref (adK i)) := by
  have hs := flat_of_before _ h
  have c6 : ∀ {P : Nat → Prop}, P 0 → P 1 → P 2 → P 3 → P 4 → P 5 → ∀ i, i < 6 → P i := fun p0 p1 p2 p3 p4 p5 i hi => by
    rcases (show i = 0 ∨ i = 1 ∨ i = 2 ∨ i = 3 ∨ i = 4 ∨ i = 5 by omega) with rfl | rfl | rfl | rfl | rfl | rfl <;> assumption
  refine vk_Sof (tm := fun i => Term.string RX7 (scp.getD i 0)) ?_ ?_ ?_ ?_ ?_ ?_ ?_ hA
  · exact c6 (by decide) (by decide) (by decide) (by decide) (by decide) (by decide)
  · exact c6 (hs _ (by decide +kernel)) (hs _ (by decide +kernel)) (hs _ (by decide +kernel)) (hs _ (by decide +kernel)) (hs _ (by decide +kernel)) (hs _ (by decide +kernel))
  · exact c6 (hs _ (by decide +kernel)) (hs _ (by decide +kernel)) (hs _ (by decide +kernel)) (hs _ (by decide +kernel)) (hs _ (by decide +kernel)) (hs _ (by decide +kernel))
  · exact c6 (hs _ (by decide +kernel)) (hs _ (by decide +kernel)) (hs _ (by decide +kernel)) (hs _ (by decide +kernel)) (hs _ (by decide +kernel)) (hs _ (by decide +kernel))
  · exact c6 (hs _ (by decide +kernel)) (hs _ (by decide +kernel)) (hs _ (by decide +kernel)) (hs _ (by decide +kernel)) (hs _ (by decide +kernel)) (hs _ (by decide +kernel))
  · have w : ∀ i : Fin 6, ∀ j : Fin (lnS.getD i.val 0), (Cond.eq (.elem (.field (Term.string RX7 (scp.getD i.val 0)) "java/lang/String" "value" "[B") (.int (Int32.ofNat j.val))) (.int ((bySt.getD i.val []).getD j.val 0))) ∈ flatC (Jvm.Cond.and given_1 narrow_1) := by decide +kernel
    exact fun i hi j hj => hs _ (w ⟨i, hi⟩ ⟨j, hj⟩)
  · have w : ∀ i j : Fin 6, i ≠ j → (Cond.not (Cond.eq (Term.string RX7 (scp.getD i.val 0)) (Term.string RX7 (scp.getD j.val 0)))) ∈ flatC (Jvm.Cond.and given_1 narrow_1) ∨ (Cond.not (Cond.eq (Term.string RX7 (scp.getD j.val 0)) (Term.string RX7 (scp.getD i.val 0)))) ∈ flatC (Jvm.Cond.and given_1 narrow_1) := by decide +kernel
    exact fun i j hi hj hne => (w ⟨i, hi⟩ ⟨j, hj⟩ (fun z => hne (Fin.mk.inj z))).imp (hs _) (hs _)
