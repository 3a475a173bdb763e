/-! the law's entry, with the constants -/
set_option maxHeartbeats 4000000 in
theorem law_in2 {p : Program} {e : Env} {s : State} {m : MethodId} {below : List Frame} {meth : Method} {c : Code} (l : Launch) {b L : Nat} {xs : Nat → Int32} (C0 : lw_At p s m meth c b L xs) {ms : Nat} (hms : ms ≤ 7302250)
    (K : ∀ (Θ : Th) (adK adV : Nat → Nat) (fv : Value), tL Θ = l → (∀ U H, tX Θ U H → XS b L xs (tb Θ) U H) → HasS Θ adK adV fv → E Θ 130 183 ms yL_law cL_law 4 (some .boolean) 0 0 0 (fun _ => .inr (99, [])) 0 [(0, .ref b)] [] (Qi (fun r _ => r = 1))) :
    W p l e room_1 s m #[Value.ref b] below meth c s.heap [] 0 0 (lw_Z below #[Value.ref b] s) (entryFrame m ([Value.ref b] : List Value).toArray 4) := by
  obtain ⟨hx, hb, hr, hml, hown, hts, hX, hbl, hlocks, hgv⟩ := id C0
  obtain ⟨adK, adV, fv, hfv, hst⟩ := stx_of hgv hts
  obtain ⟨D, κ, hK⟩ := mkK hts
  have hTw : Tw s := ⟨fun w hw hn => va_Nw.of (nw_tab hn) (hts w hw), fun C hC => va_AO.of (hts _ (ao_in C hC))⟩
  have hOk : OkX (l, D, κ, s.heap.size, fun U H => XS b L xs s.heap.size U H ∧ STX adK adV fv (l, D, κ, s.heap.size, XS b L xs s.heap.size) U H) := ⟨fun U H H1 h hX => ⟨⟨hX.1.1.kept (h b hX.1.2), hX.1.2⟩, hX.2.kept h⟩, fun u U H hW hX => ⟨⟨hX.1.1.moved hW.alike, hX.1.2⟩, hX.2.warm hW⟩, fun u U H hv hX => ⟨⟨hX.1.1.moved (hv ▸ Vm.Alike.refl u.vm), hX.1.2⟩, hX.2.same hv⟩⟩
  have hl := lv_entry ([.ref b]) (n := 4) (Nat.le_of_ble_eq_true rfl)
  have hca : ∀ v ∈ [Value.ref b], v.category = 1 := fun v hv => by
    rw [List.mem_singleton.mp hv]
    rfl
  rw [lg_entry_eq]
  have hlh : Lh (lg_sl [Value.ref b] ++ List.replicate (4 - (lg_sl [Value.ref b]).length) Slot.unset).toArray 4 [(0, .ref b)] := ⟨hl.1, hl.2.1, fun i v e => ⟨hl.2.2 _ (lk_mem (ls := lv_args 0 [Value.ref b]) e), lv_args_cat _ 0 hca _ (lk_mem (ls := lv_args 0 [Value.ref b]) e)⟩⟩
  have hS0 := hst (l, D, κ, s.heap.size, XS b L xs s.heap.size) rfl
  have hEv : Ev (l, D, κ, s.heap.size, fun U H => XS b L xs s.heap.size U H ∧ STX adK adV fv (l, D, κ, s.heap.size, XS b L xs s.heap.size) U H) 130 183 ms yL_law cL_law 4 (some .boolean) p room_1 s m #[Value.ref b] meth c := ⟨hx, hb, hml, hr, hlocks, hown, fun w hw => hts w (TG_good hw).1, ⟨hK, hTw, hOk⟩, ⟨⟨hX, hbl⟩, hS0⟩, Nat.le_refl _, ⟨Nat.le_of_ble_eq_true rfl, Nat.le_of_ble_eq_true rfl, Nat.le_of_ble_eq_true rfl, hms⟩, fun h => absurd h (by decide)⟩
  refine K (l, D, κ, s.heap.size, fun U H => XS b L xs s.heap.size U H ∧ STX adK adV fv (l, D, κ, s.heap.size, XS b L xs s.heap.size) U H) adK adV fv rfl (fun U H z => z.1) ⟨hfv, fun U H z => z.2⟩ (Nat.zero_le _) (Nat.zero_le _) p e room_1 s m #[Value.ref b] below meth c hEv rfl s.heap [] _ (fun k q hq => by simp [wl] at hq) va_S.rf hlh _ ?_
  intro v n' G' H' locs' pc' la' hq hn' hH' hS' hR
  cases v with
  | none => exact hq.elim
  | some r =>
    have hq1 : r = 1 := hq
    subst hq1
    refine va_forget (fun q hq => hS'.2.2 q hq) ?_
    exact W.widen (Nat.le_of_ble_eq_true rfl) hms (lw_ret hx hb hr hlocks hR.1)
