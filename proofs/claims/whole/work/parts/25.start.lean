/-! the law's entry: its frame over an empty heap of ours -/
def XS (b L : Nat) (xs : Nat → Int32) (tbv : Nat) (U : State) (H : Heap) : Prop := va_X b L xs U H ∧ b < tbv
theorem kn_arr {s : State} {args : Array Value} {ty : FieldType} (h : (Cond.arrayClass ty).before args s = true) (hn : ∀ C, ty ≠ .object C) : ∃ cA, ArrOfT s cA ty ∧ va_RA s cA ty := by
  obtain ⟨cA, kA, comp, h1, h2, h3⟩ := Cond.arrayClass_spec h
  refine ⟨cA, fun n z => ⟨fun k h => (by cases h), kA, h2, comp, h3⟩, ?_⟩
  cases ty with
  | object C => exact absurd rfl (hn C)
  | _ => exact h1
theorem kn_ao {s : State} {args : Array Value} {C : String} (h : (Cond.arrayOver (.object C)).before args s = true) : ∃ cA, ArrOfT s cA (.object C) ∧ va_RA s cA (.object C) := by
  obtain ⟨comp, cA, kA, h1, h2, h3, h4, h5⟩ := Cond.arrayOver_spec h
  exact ⟨cA, fun n z => ⟨fun k h => (by cases h), kA, h3, comp, h4⟩, kA, comp, h3, h4, h1, h5⟩
theorem ao_in : ∀ C ∈ aoL, Cond.arrayOver (.object C) ∈ lw_tbl := by decide +kernel
set_option maxHeartbeats 4000000 in
theorem mkK {s : State} {args : Array Value} (hts : ∀ w ∈ lw_tbl, w.before args s = true) : ∃ (D : va_G) (κ : Nat → ClassId), va_K D vwCl [(κ 0, .int), (κ 1, .char), (κ 2, .boolean), (κ 3, .object RX3), (κ 4, .object RX4), (κ 5, .object RX5), (κ 6, .object RX8)] s := by
  have hin : ∀ {ws : List Cond}, (∀ w ∈ ws, w ∈ TG) → ∀ w ∈ ws, w ∈ lw_tbl := fun h w hw => (TG_good (h w hw)).1
  have kn : ∀ (ci : Nat) (q : vw_C), vwCl[ci]? = some q → ∃ (cC : ClassId) (iS : Nat → Nat), u_Kn s q.1 q.2.1 q.2.2 cC iS := by
    intro ci q hq
    have one : ∀ {ci' : Nat} {C : String} {T : u_T} {N : Nat} {ty : Nat → FieldType}, ci = ci' → Kc ci' C T N ty → ∃ (cC : ClassId) (iS : Nat → Nat), u_Kn s q.1 q.2.1 q.2.2 cC iS := by
      intro ci' C T N ty e hK
      subst e
      have e : q = (C, T, N) := Option.some.inj (hq.symm.trans hK.1)
      rw [e]
      exact u_known hts (hin hK.2.1) (hts _ (TG_good hK.2.2.2.2.1).1)
    have hl : ci < 13 := (List.getElem?_eq_some_iff.mp hq).1
    rcases (show ci = 0 ∨ ci = 1 ∨ ci = 2 ∨ ci = 3 ∨ ci = 4 ∨ ci = 5 ∨ ci = 6 ∨ ci = 7 ∨ ci = 8 ∨ ci = 9 ∨ ci = 10 ∨ ci = 11 ∨ ci = 12 by omega) with e | e | e | e | e | e | e | e | e | e | e | e | e
    · exact one e K_0
    · exact one e K_1
    · exact one e K_2
    · exact one e K_3
    · exact one e K_4
    · exact one e K_5
    · exact one e K_6
    · exact one e K_7
    · exact one e K_8
    · exact one e K_9
    · exact one e K_10
    · exact one e K_11
    · exact one e K_12
  have kn2 : ∀ ci : Nat, ∃ (q : ClassId × (Nat → Nat)), ∀ r : vw_C, vwCl[ci]? = some r → u_Kn s r.1 r.2.1 r.2.2 q.1 q.2 := by
    intro ci
    cases hq : vwCl[ci]? with
    | none => exact ⟨(0, fun _ => 0), fun r h => by cases h⟩
    | some r =>
      obtain ⟨cC, iS, h⟩ := kn ci r hq
      exact ⟨(cC, iS), fun r' h' => by cases h'; exact h⟩
  obtain ⟨k0, a0⟩ := kn_arr (hts _ (TG_good ac_int).1) (fun C h => by cases h)
  obtain ⟨k1, a1⟩ := kn_arr (hts _ (TG_good ac_char).1) (fun C h => by cases h)
  obtain ⟨k2, a2⟩ := kn_arr (hts _ (TG_good ac_boolean).1) (fun C h => by cases h)
  obtain ⟨k3, a3⟩ := kn_ao (hts _ (ao_in RX3 (by decide)))
  obtain ⟨k4, a4⟩ := kn_ao (hts _ (ao_in RX4 (by decide)))
  obtain ⟨k5, a5⟩ := kn_ao (hts _ (ao_in RX5 (by decide)))
  obtain ⟨k6, a6⟩ := kn_ao (hts _ (ao_in RX8 (by decide)))
  refine ⟨(fun ci => (Classical.choose (kn2 ci)).1, fun ci => (Classical.choose (kn2 ci)).2), fun i => [k0, k1, k2, k3, k4, k5, k6].getD i k0, fun ci q hq => Classical.choose_spec (kn2 ci) q hq, fun k q hq => ?_⟩
  have hl : k < 7 := (List.getElem?_eq_some_iff.mp hq).1
  rcases (show k = 0 ∨ k = 1 ∨ k = 2 ∨ k = 3 ∨ k = 4 ∨ k = 5 ∨ k = 6 by omega) with rfl | rfl | rfl | rfl | rfl | rfl | rfl
  · obtain rfl := Option.some.inj hq; exact a0
  · obtain rfl := Option.some.inj hq; exact a1
  · obtain rfl := Option.some.inj hq; exact a2
  · obtain rfl := Option.some.inj hq; exact a3
  · obtain rfl := Option.some.inj hq; exact a4
  · obtain rfl := Option.some.inj hq; exact a5
  · obtain rfl := Option.some.inj hq; exact a6
set_option maxHeartbeats 4000000 in
theorem law_in {p : Program} {e : Env} {s : State} {m : MethodId} {below : List Frame} {meth : Method} {c : Code} (l : Launch) {b L : Nat} {xs : Nat → Int32} (C0 : lw_At p s m meth c b L xs) {ms : Nat} (hms : ms ≤ 7302250)
    (K : ∀ Θ : Th, tL Θ = l → tX Θ = XS b L xs (tb Θ) → E Θ 130 183 ms yL_law cL_law 4 (some .boolean) 0 0 0 (fun _ => .inr (99, [])) 0 [(0, .ref b)] [] (Qi (fun r _ => r = 1))) :
    W p l e room_1 s m #[Value.ref b] below meth c s.heap [] 0 0 (lw_Z below #[Value.ref b] s) (entryFrame m ([Value.ref b] : List Value).toArray 4) := by
  obtain ⟨hx, hb, hr, hml, hown, hts, hX, hbl, hlocks, hgv⟩ := id C0
  obtain ⟨D, κ, hK⟩ := mkK hts
  have hTw : Tw s := ⟨fun w hw hn => va_Nw.of (nw_tab hn) (hts w hw), fun C hC => va_AO.of (hts _ (ao_in C hC))⟩
  have hOk : OkX (l, D, κ, s.heap.size, XS b L xs s.heap.size) := ⟨fun U H H1 h hX => ⟨hX.1.kept (h b hX.2), hX.2⟩, fun u U H hW hX => ⟨hX.1.moved hW.alike, hX.2⟩, fun u U H hv hX => ⟨hX.1.moved (hv ▸ Vm.Alike.refl u.vm), hX.2⟩⟩
  have hl := lv_entry ([.ref b]) (n := 4) (Nat.le_of_ble_eq_true rfl)
  have hca : ∀ v ∈ [Value.ref b], v.category = 1 := fun v hv => by
    rw [List.mem_singleton.mp hv]
    rfl
  rw [lg_entry_eq]
  have hlh : Lh (lg_sl [Value.ref b] ++ List.replicate (4 - (lg_sl [Value.ref b]).length) Slot.unset).toArray 4 [(0, .ref b)] := ⟨hl.1, hl.2.1, fun i v e => ⟨hl.2.2 _ (lk_mem (ls := lv_args 0 [Value.ref b]) e), lv_args_cat _ 0 hca _ (lk_mem (ls := lv_args 0 [Value.ref b]) e)⟩⟩
  have hEv : Ev (l, D, κ, s.heap.size, XS b L xs s.heap.size) 130 183 ms yL_law cL_law 4 (some .boolean) p room_1 s m #[Value.ref b] meth c := ⟨hx, hb, hml, hr, hlocks, hown, fun w hw => hts w (TG_good hw).1, ⟨hK, hTw, hOk⟩, ⟨hX, hbl⟩, Nat.le_refl _, ⟨Nat.le_of_ble_eq_true rfl, Nat.le_of_ble_eq_true rfl, Nat.le_of_ble_eq_true rfl, hms⟩, fun h => absurd h (by decide)⟩
  refine K (l, D, κ, s.heap.size, XS b L xs s.heap.size) rfl rfl (Nat.zero_le _) (Nat.zero_le _) p e room_1 s m #[Value.ref b] below meth c hEv rfl s.heap [] _ (fun k q hq => by simp [wl] at hq) va_S.rf hlh _ ?_
  intro v n' G' H' locs' pc' la' hq hn' hH' hS' hR
  cases v with
  | none => exact hq.elim
  | some r =>
    have hq1 : r = 1 := hq
    subst hq1
    refine va_forget (fun q hq => hS'.2.2 q hq) ?_
    exact W.widen (Nat.le_of_ble_eq_true rfl) hms (lw_ret hx hb hr hlocks hR.1)
