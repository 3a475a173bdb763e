/-! worlds stay well over a minute -/
theorem ushr8 (x : Int32) : ∃ k, k < 2 ^ 24 ∧ shr8 x = nI k := by
  have h : ((8 : Int32).toUInt32 &&& Int32.toUInt32 31).toBitVec % 32 = 8 := by decide
  have e := pk_ushr x 8 8 (by decide)
  have hx : x.toBitVec.toNat < 2 ^ 32 := x.toBitVec.isLt
  refine ⟨x.toBitVec.toNat / 2 ^ 8, by omega, ?_⟩
  apply Int32.toBitVec_inj.mp
  apply BitVec.eq_of_toNat_eq
  rw [show (shr8 x).toBitVec.toNat = x.toBitVec.toNat / 2 ^ 8 from e, pk_tn (by omega)]
theorem rem6_ix (v : WV) : ∃ j, j < 6 ∧ rem6 (drawR v) = nI j := by
  obtain ⟨k, hk, e⟩ := ushr8 (drawN v)
  refine ⟨k % 6, by omega, ?_⟩
  rw [rem6, drawR, e]
  exact pk_rem (d := 6) (by omega) (by omega) (by omega)
def eqHi (v u : WV) : Prop := ∀ j, 96 ≤ j → u j = v j
theorem eqHi.rf {v : WV} : eqHi v v := fun _ _ => rfl
theorem eqHi.up {v u : WV} {j : Nat} {x : Int32} (h : eqHi v u) (hj : j < 96) : eqHi v (upd u j x) := fun k hk => by rw [pk_un (by omega)]; exact h k hk
theorem eqHi.tr {v u w : WV} (h : eqHi v u) (h' : eqHi u w) : eqHi v w := fun k hk => (h' k hk).trans (h k hk)
theorem dp_congr {f g : Nat → Int32} : ∀ k, (∀ i, i < k → f i = g i) → dpF f k = dpF g k
  | 0, _ => rfl
  | k + 1, h => by rw [dpF, dpF, dp_congr k (fun i hi => h i (by omega)), h k (by omega)]
theorem ln_hi {v u : WV} (h : eqHi v u) (t : Nat) : lnF u t = lnF v t := by rw [lnF, lnF, h _ (by omega)]
theorem cd_hi {v u : WV} (h : eqHi v u) (t : Nat) : cdF u t = cdF v t := by
  funext k
  exact h _ (by omega)
theorem txOk.hi {v u : WV} {t : Nat} (h : eqHi v u) (ok : txOk v t) : txOk u t := by
  unfold txOk
  rw [ln_hi h, cd_hi h, h (96 + 2 * t) (by omega)]
  exact ok
/-- all but the boat's way -/
def IC (v : WV) (m : Nat) : Prop := (m ≤ 9 ∧ v 1 = nI m ∧ ∀ p, p < m → paOk v p) ∧ (∃ b, b < 2 ∧ v 5 = nI b) ∧ (∃ x, x < 10 ∧ v 3 = nI x) ∧ (∃ x, 1 ≤ x ∧ x < 100 ∧ v 4 = nI x) ∧ ∃ t, t ≤ 14 ∧ v 14 = nI t ∧ ∀ i, i < t → txOk v i
def IWy (v : WV) (m : Nat) : Prop := ∃ w, w < 30 ∧ v 6 = nI w ∧ (0 < w → ∃ p o j, p < o ∧ o < m ∧ j < 6 ∧ v 7 = nI p ∧ v 8 = nI o ∧ v 9 = nI j)
theorem IV_iff {v : WV} : IV v ↔ ∃ m, IC v m ∧ IWy v m := by
  constructor
  · rintro ⟨⟨m, h1, h2, h3⟩, hb, ⟨w, hw, hw2, hw3⟩, hx, hl, ht⟩
    have hmm : mN v = m := by rw [mN, h2, nI_clamp (by omega)]
    exact ⟨m, ⟨⟨h1, h2, h3⟩, hb, hx, hl, ht⟩, w, hw, hw2, by rw [← hmm]; exact hw3⟩
  · rintro ⟨m, ⟨⟨h1, h2, h3⟩, hb, hx, hl, ht⟩, w, hw, hw2, hw3⟩
    have hmm : mN v = m := by rw [mN, h2, nI_clamp (by omega)]
    exact ⟨⟨m, h1, h2, h3⟩, hb, ⟨w, hw, hw2, by rw [hmm]; exact hw3⟩, hx, hl, ht⟩
theorem paOk.congr {v u : WV} {p : Nat} (h : ∀ k, 15 + 9 * p ≤ k → k < 24 + 9 * p → u k = v k) (ok : paOk v p) : paOk u p := by
  obtain ⟨⟨c, h1, h2⟩, ⟨t, h3, h4⟩, ⟨b, h5, h6⟩, h7⟩ := ok
  refine ⟨⟨c, h1, ?_⟩, ⟨t, h3, ?_⟩, ⟨b, h5, ?_⟩, fun j hj => ?_⟩
  · rw [kdF, h _ (by omega) (by omega)]; exact h2
  · rw [tmF, h _ (by omega) (by omega)]; exact h4
  · rw [h _ (by omega) (by omega)]; exact h6
  · obtain ⟨q, hq, e⟩ := h7 j hj
    exact ⟨q, hq, by rw [vwF, h _ (by omega) (by omega)]; exact e⟩
theorem IC.low {v : WV} {m j : Nat} {x : Int32} (h : IC v m) (hj : j < 15) (h1 : j ≠ 1) (h3 : j ≠ 3) (h4 : j ≠ 4) (h5 : j ≠ 5) (h14 : j ≠ 14) : IC (upd v j x) m := by
  obtain ⟨⟨a1, a2, a3⟩, ⟨b, b1, b2⟩, ⟨c, c1, c2⟩, ⟨l, l0, l1, l2⟩, t, t1, t2, t3⟩ := h
  refine ⟨⟨a1, by rw [pk_un (Ne.symm h1)]; exact a2, fun p hp => (a3 p hp).congr (fun k _ _ => pk_un (by omega))⟩, ⟨b, b1, by rw [pk_un (Ne.symm h5)]; exact b2⟩, ⟨c, c1, by rw [pk_un (Ne.symm h3)]; exact c2⟩, ⟨l, l0, l1, by rw [pk_un (Ne.symm h4)]; exact l2⟩, t, t1, by rw [pk_un (Ne.symm h14)]; exact t2, fun i hi => (t3 i hi).hi (eqHi.rf.up (by omega))⟩
theorem IC.boat {v : WV} {m b : Nat} (h : IC v m) (hb : b < 2) : IC (upd v 5 (nI b)) m := by
  obtain ⟨⟨a1, a2, a3⟩, -, ⟨c, c1, c2⟩, ⟨l, l0, l1, l2⟩, t, t1, t2, t3⟩ := h
  exact ⟨⟨a1, a2, fun p hp => (a3 p hp).congr (fun k _ _ => pk_un (by omega))⟩, ⟨b, hb, pk_us⟩, ⟨c, c1, c2⟩, ⟨l, l0, l1, l2⟩, t, t1, t2, fun i hi => (t3 i hi).hi (eqHi.rf.up (by omega))⟩
theorem IC.pas {v : WV} {m p k : Nat} {x : Int32} (h : IC v m) (hp : p < m) (hk1 : 15 + 9 * p ≤ k) (hk2 : k < 24 + 9 * p) (ok : paOk (upd v k x) p) : IC (upd v k x) m := by
  obtain ⟨⟨a1, a2, a3⟩, ⟨b, b1, b2⟩, ⟨c, c1, c2⟩, ⟨l, l0, l1, l2⟩, t, t1, t2, t3⟩ := h
  refine ⟨⟨a1, by rw [pk_un (by omega)]; exact a2, fun q hq => ?_⟩, ⟨b, b1, by rw [pk_un (by omega)]; exact b2⟩, ⟨c, c1, by rw [pk_un (by omega)]; exact c2⟩, ⟨l, l0, l1, by rw [pk_un (by omega)]; exact l2⟩, t, t1, by rw [pk_un (by omega)]; exact t2, fun i hi => (t3 i hi).hi (eqHi.rf.up (by omega))⟩
  by_cases e : q = p
  · subst e
    exact ok
  · exact (a3 q hq).congr (fun k' _ _ => pk_un (by omega))
theorem IC.temper {v : WV} {m p t : Nat} (h : IC v m) (hp : p < m) (ht : t < 100) : IC (upd v (17 + 9 * p) (nI t)) m := by
  refine h.pas hp (by omega) (by omega) ?_
  obtain ⟨⟨c, h1, h2⟩, -, ⟨b, h5, h6⟩, h7⟩ := h.1.2.2 p hp
  refine ⟨⟨c, h1, by rw [kdF, pk_un (by omega)]; exact h2⟩, ⟨t, ht, pk_us⟩, ⟨b, h5, by rw [pk_un (by omega)]; exact h6⟩, fun j hj => ?_⟩
  obtain ⟨q, hq, e⟩ := h7 j hj
  exact ⟨q, hq, by rw [vwF, pk_un (by omega)]; exact e⟩
theorem IC.bank {v : WV} {m p t : Nat} (h : IC v m) (hp : p < m) (ht : t < 3) : IC (upd v (16 + 9 * p) (nI t)) m := by
  refine h.pas hp (by omega) (by omega) ?_
  obtain ⟨⟨c, h1, h2⟩, ⟨b, h5, h6⟩, -, h7⟩ := h.1.2.2 p hp
  refine ⟨⟨c, h1, by rw [kdF, pk_un (by omega)]; exact h2⟩, ⟨b, h5, by rw [tmF, pk_un (by omega)]; exact h6⟩, ⟨t, ht, pk_us⟩, fun j hj => ?_⟩
  obtain ⟨q, hq, e⟩ := h7 j hj
  exact ⟨q, hq, by rw [vwF, pk_un (by omega)]; exact e⟩
theorem IC.view {v : WV} {m p j q : Nat} (h : IC v m) (hp : p < m) (hj : j < 6) (hq : q < 7) : IC (upd v (18 + 9 * p + j) (nI q - 3)) m := by
  refine h.pas hp (by omega) (by omega) ?_
  obtain ⟨⟨c, h1, h2⟩, ⟨t, h3, h4⟩, ⟨b, h5, h6⟩, h7⟩ := h.1.2.2 p hp
  refine ⟨⟨c, h1, by rw [kdF, pk_un (by omega)]; exact h2⟩, ⟨t, h3, by rw [tmF, pk_un (by omega)]; exact h4⟩, ⟨b, h5, by rw [pk_un (by omega)]; exact h6⟩, fun i hi => ?_⟩
  by_cases e : i = j
  · subst e
    exact ⟨q, hq, pk_us⟩
  · obtain ⟨q', hq', e'⟩ := h7 i hi
    exact ⟨q', hq', by rw [vwF, pk_un (by omega)]; exact e'⟩
