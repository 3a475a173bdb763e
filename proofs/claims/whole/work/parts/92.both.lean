/-! what stands of both at once, between the calls -/
def JW (S : SS) : Prop := WRep S 20 (S 160) ∧ TRep S (S 160) ∧ IV (S 160) ∧ TxK (S 160) ∧ tmO (S 160) 9999 ∧ hi0 (S 160)
def JI (S : SS) : Prop := hi0 (S 161) ∧ S 0 4 = S 159 3 ∧ (S 0 4 = 0 ∨ S 0 4 = 1 ∧ WRep S 42 (S 161) ∧ TRep S (S 161) ∧ IV (S 161) ∧ TxK (S 161) ∧ tmO (S 161) 9999 ∧ tN (S 161) ≤ tN (S 160))
def JT (S : SS) : Prop := ∃ n, n ≤ 96 ∧ S 3 1 = nI n ∧ S 159 8 = nI n ∧ (∀ k, k < n → S 166 k = S 4 k) ∧ byOk (S 4) n
def JS (S : SS) : Prop := ∃ X : SH, CSh S X ∧ RSh S X ∧ OSh X
def JL (S : SS) : Prop := ∃ L : SL, CSl S L ∧ RSl S L ∧ OSl L
def JM (S : SS) : Prop := ∃ n, n ≤ 60 ∧ S 0 13 = nI n ∧ S 159 34 = nI n ∧ ∀ q, q < n → S 10 q = S 182 q
def JN (S : SS) : Prop := ∀ t, t < 15 → S (86 + 3 * t) 0 = nI t
def JJ (S : SS) : Prop := JW S ∧ JI S ∧ JT S ∧ JS S ∧ JL S ∧ JM S ∧ JN S ∧ KYS S
theorem mN_le {v : WV} (iv : IV v) : mN v ≤ 9 := by
  obtain ⟨m, hm9, -, hmm, -⟩ := mn_iv iv
  omega
theorem TRep.lt {S S' : SS} {v : WV} (h : TRep S v) (hf : ∀ t, t < tN v → S' (86 + 3 * t) = S (86 + 3 * t) ∧ S' (86 + 3 * t + 1) = S (86 + 3 * t + 1)) : TRep S' v := by
  intro t ht
  obtain ⟨e1, e2⟩ := hf t ht
  rw [e1, e2]
  exact h t ht
theorem TRep.eq {S : SS} {v u : WV} (h : TRep S v) (h14 : u 14 = v 14) (hh : eqHi v u) : TRep S u := by
  intro t ht
  have e : tN u = tN v := by rw [tN, tN, h14]
  obtain ⟨a, b, c, d⟩ := h t (by omega)
  rw [hh _ (by omega), hh _ (by omega), ln_hi hh, cd_hi hh]
  exact ⟨a, b, c, d⟩
section Fr
variable {S S' : SS}
theorem JW.fr (h : JW S) (hw : ∀ k, 20 ≤ k → k < 42 → S' k = S k) (ht : ∀ t, t < 14 → S' (86 + 3 * t) = S (86 + 3 * t) ∧ S' (86 + 3 * t + 1) = S (86 + 3 * t + 1)) (h0 : S' 160 = S 160) : JW S' := by
  obtain ⟨a, b, c, d⟩ := h
  unfold JW
  rw [h0]
  exact ⟨a.sm (mN_le c) hw, b.sm (tN_le c) ht, c, d⟩
theorem JI.fr (h : JI S) (e0 : S' 0 4 = S 0 4) (e9 : S' 159 3 = S 159 3) (hw : ∀ k, 42 ≤ k → k < 64 → S' k = S k) (ht : ∀ t, t < 14 → t < tN (S 160) → S' (86 + 3 * t) = S (86 + 3 * t) ∧ S' (86 + 3 * t + 1) = S (86 + 3 * t + 1)) (h1 : S' 161 = S 161) (hn : tN (S 160) ≤ tN (S' 160)) : JI S' := by
  obtain ⟨a, b, c⟩ := h
  unfold JI
  rw [e0, e9, h1]
  refine ⟨a, b, c.imp id ?_⟩
  rintro ⟨d, e, f, g, i, j, k⟩
  have h14 := tN_le g
  exact ⟨d, e.sm (mN_le g) hw, f.lt (fun t q => ht t (by omega) (by omega)), g, i, j, by omega⟩
theorem JT.fr (h : JT S) (h3 : S' 3 1 = S 3 1) (h4 : S' 4 = S 4) (h9 : S' 159 8 = S 159 8) (h6 : S' 166 = S 166) : JT S' := by
  unfold JT
  rw [h3, h4, h9, h6]
  exact h
theorem JS.fr (h : JS S) (hc : ∀ k, 131 ≤ k → k < 139 → S' k = S k) (h4 : S' 174 = S 174) (h5 : S' 175 = S 175) (h6 : S' 176 = S 176) : JS S' := by
  obtain ⟨X, a, b, c⟩ := h
  refine ⟨X, fun s hs => ?_, fun s hs => ?_, c⟩
  · rw [hc _ (by omega) (by omega), hc _ (by omega) (by omega)]
    exact a s hs
  · rw [h4, h5, h6]
    exact b s hs
theorem JL.fr (h : JL S) (h6 : S' 6 = S 6) (h9 : S' 9 = S 9) (hc : ∀ k, 139 ≤ k → k < 159 → S' k = S k) (hr : ∀ k, 177 ≤ k → k < 181 → S' k = S k) : JL S' := by
  obtain ⟨L, a, b, c⟩ := h
  refine ⟨L, fun i hi => ?_, fun i hi => ?_, c⟩
  · unfold sl1 sl2
    rw [h6, h9, hc _ (by omega) (by omega), hc _ (by omega) (by omega), hc _ (by omega) (by omega)]
    exact a i hi
  · rw [hr _ (by omega) (by omega), hr _ (by omega) (by omega), hr _ (by omega) (by omega), hr _ (by omega) (by omega)]
    exact b i hi
theorem JM.fr (h : JM S) (h0 : S' 0 13 = S 0 13) (h9 : S' 159 34 = S 159 34) (h10 : S' 10 = S 10) (h2 : S' 182 = S 182) : JM S' := by
  unfold JM
  rw [h0, h9, h10, h2]
  exact h
theorem JN.fr (h : JN S) (ht : ∀ t, t < 15 → S' (86 + 3 * t) 0 = S (86 + 3 * t) 0) : JN S' := fun t q => (ht t q).trans (h t q)
theorem KYS.fr (h : KYS S) (h7 : S' 167 = S 167) (h8 : S' 168 = S 168) : KYS S' := by
  unfold KYS
  rw [h7, h8]
  exact h
/-- nothing is changed but what is written anew before it is read -/
def FrS (S S' : SS) : Prop := ∀ k, (k < 64 ∨ 86 ≤ k) → (∀ t, t < 15 → k ≠ 86 + 3 * t + 2) → (k < 11 ∨ 13 < k) → (k < 162 ∨ 165 < k) → (k < 169 ∨ 173 < k) → k ≠ 181 → S' k = S k
theorem JJ.scr (h : JJ S) (hf : FrS S S') : JJ S' := by
  obtain ⟨w, i, t, s, l, m, n, k⟩ := h
  have f : ∀ k, k ≤ 10 ∨ 13 < k ∧ k < 64 ∨ 131 ≤ k ∧ k < 162 ∨ 166 ≤ k ∧ k < 169 ∨ 174 ≤ k ∧ k < 181 ∨ k = 182 → S' k = S k := fun k hk => hf k (by omega) (fun t ht => by omega) (by omega) (by omega) (by omega) (by omega)
  have ft : ∀ t, t < 15 → S' (86 + 3 * t) = S (86 + 3 * t) ∧ S' (86 + 3 * t + 1) = S (86 + 3 * t + 1) := fun t ht => ⟨hf _ (by omega) (fun t' _ => by omega) (by omega) (by omega) (by omega) (by omega), hf _ (by omega) (fun t' _ => by omega) (by omega) (by omega) (by omega) (by omega)⟩
  exact ⟨w.fr (fun k a b => f k (by omega)) (fun t ht => ft t (by omega)) (f 160 (by omega)), i.fr (by rw [f 0 (by omega)]) (by rw [f 159 (by omega)]) (fun k a b => f k (by omega)) (fun t ht _ => ft t (by omega)) (f 161 (by omega)) (by rw [f 160 (by omega)]; exact Nat.le_refl _), t.fr (by rw [f 3 (by omega)]) (f 4 (by omega)) (by rw [f 159 (by omega)]) (f 166 (by omega)), s.fr (fun k a b => f k (by omega)) (f 174 (by omega)) (f 175 (by omega)) (f 176 (by omega)), l.fr (f 6 (by omega)) (f 9 (by omega)) (fun k a b => f k (by omega)) (fun k a b => f k (by omega)), m.fr (by rw [f 0 (by omega)]) (by rw [f 159 (by omega)]) (f 10 (by omega)) (f 182 (by omega)), n.fr (fun t ht => by rw [(ft t ht).1]), k.fr (f 167 (by omega)) (f 168 (by omega))⟩
/-- the world is another: v' on both sides -/
theorem JJ.world {S1 : SS} {u : WV} (h : JJ S) (hR : WRep S1 20 u) (hf : WF 20 S S1) (h0 : S' 160 = u) (hm : MF S1 S') (ok : vOk (S 160) u) : JJ S' := by
  obtain ⟨⟨w1, w2, w3, w4, w5, w6⟩, i, t, s, l, m, n, k⟩ := h
  obtain ⟨iv, hk, tm⟩ := ok
  have hh : eqHi (S 160) u := fun j hj => hk j (Or.inr hj)
  have h14 : u 14 = S 160 14 := hk 14 (Or.inl rfl)
  have f : ∀ k, k < 20 ∨ 42 ≤ k ∧ k < 86 ∨ 131 ≤ k ∧ k < 160 ∨ 160 < k ∧ k < 172 ∨ 173 < k → S' k = S k := fun k hk => (hm k (by omega) (by omega) (by omega)).trans (hf k (by omega) (fun t ht => by omega))
  have ft : ∀ t, t < 15 → S' (86 + 3 * t) = S (86 + 3 * t) ∧ S' (86 + 3 * t + 1) = S (86 + 3 * t + 1) := fun t ht => ⟨(hm _ (by omega) (by omega) (by omega)).trans (hf _ (by omega) (fun t' _ => by omega)), (hm _ (by omega) (by omega) (by omega)).trans (hf _ (by omega) (fun t' _ => by omega))⟩
  refine ⟨?_, i.fr (by rw [f 0 (by omega)]) (by rw [f 159 (by omega)]) (fun k a b => f k (by omega)) (fun t ht _ => ft t (by omega)) (f 161 (by omega)) (by rw [h0, tN, tN, h14]; exact Nat.le_refl _), t.fr (by rw [f 3 (by omega)]) (f 4 (by omega)) (by rw [f 159 (by omega)]) (f 166 (by omega)), s.fr (fun k a b => f k (by omega)) (f 174 (by omega)) (f 175 (by omega)) (f 176 (by omega)), l.fr (f 6 (by omega)) (f 9 (by omega)) (fun k a b => f k (by omega)) (fun k a b => f k (by omega)), m.fr (by rw [f 0 (by omega)]) (by rw [f 159 (by omega)]) (f 10 (by omega)) (f 182 (by omega)), n.fr (fun t ht => by rw [(ft t ht).1]), k.fr (f 167 (by omega)) (f 168 (by omega))⟩
  unfold JW
  rw [h0]
  exact ⟨hR.sm (mN_le iv) (fun k a b => hm k (by omega) (by omega) (by omega)), (w2.sm (tN_le w3) (fun t ht => ft t (by omega))).eq h14 hh, iv, w4.hi h14 hh, tm, fun k hk => (hh k (by omega)).trans (w6 k hk)⟩
theorem JJ.sheets {X : SH} (h : JJ S) (f : ∀ k, (k < 131 ∨ 139 ≤ k) → k ≠ 174 → k ≠ 175 → k ≠ 176 → k ≠ 181 → S' k = S k) (hc : CSh S' X) (hr : RSh S' X) (ho : OSh X) : JJ S' := by
  obtain ⟨w, i, t, s, l, m, n, k⟩ := h
  exact ⟨w.fr (fun k a b => f k (by omega) (by omega) (by omega) (by omega) (by omega)) (fun t ht => ⟨f _ (by omega) (by omega) (by omega) (by omega) (by omega), f _ (by omega) (by omega) (by omega) (by omega) (by omega)⟩) (f 160 (by omega) (by omega) (by omega) (by omega) (by omega)), i.fr (by rw [f 0 (by omega) (by omega) (by omega) (by omega) (by omega)]) (by rw [f 159 (by omega) (by omega) (by omega) (by omega) (by omega)]) (fun k a b => f k (by omega) (by omega) (by omega) (by omega) (by omega)) (fun t ht _ => ⟨f _ (by omega) (by omega) (by omega) (by omega) (by omega), f _ (by omega) (by omega) (by omega) (by omega) (by omega)⟩) (f 161 (by omega) (by omega) (by omega) (by omega) (by omega)) (by rw [f 160 (by omega) (by omega) (by omega) (by omega) (by omega)]; exact Nat.le_refl _), t.fr (by rw [f 3 (by omega) (by omega) (by omega) (by omega) (by omega)]) (f 4 (by omega) (by omega) (by omega) (by omega) (by omega)) (by rw [f 159 (by omega) (by omega) (by omega) (by omega) (by omega)]) (f 166 (by omega) (by omega) (by omega) (by omega) (by omega)), ⟨X, hc, hr, ho⟩, l.fr (f 6 (by omega) (by omega) (by omega) (by omega) (by omega)) (f 9 (by omega) (by omega) (by omega) (by omega) (by omega)) (fun k a b => f k (by omega) (by omega) (by omega) (by omega) (by omega)) (fun k a b => f k (by omega) (by omega) (by omega) (by omega) (by omega)), m.fr (by rw [f 0 (by omega) (by omega) (by omega) (by omega) (by omega)]) (by rw [f 159 (by omega) (by omega) (by omega) (by omega) (by omega)]) (f 10 (by omega) (by omega) (by omega) (by omega) (by omega)) (f 182 (by omega) (by omega) (by omega) (by omega) (by omega)), n.fr (fun t ht => by rw [f _ (by omega) (by omega) (by omega) (by omega) (by omega)]), k.fr (f 167 (by omega) (by omega) (by omega) (by omega) (by omega)) (f 168 (by omega) (by omega) (by omega) (by omega) (by omega))⟩
theorem JJ.slots {L : SL} (h : JJ S) (f : ∀ k, (k < 6 ∨ 6 < k ∧ k < 9 ∨ 9 < k ∧ k < 139 ∨ 159 ≤ k ∧ k < 177 ∨ 180 < k) → S' k = S k) (hc : CSl S' L) (hr : RSl S' L) (ho : OSl L) : JJ S' := by
  obtain ⟨w, i, t, s, l, m, n, k⟩ := h
  exact ⟨w.fr (fun k a b => f k (by omega)) (fun t ht => ⟨f _ (by omega), f _ (by omega)⟩) (f 160 (by omega)), i.fr (by rw [f 0 (by omega)]) (by rw [f 159 (by omega)]) (fun k a b => f k (by omega)) (fun t ht _ => ⟨f _ (by omega), f _ (by omega)⟩) (f 161 (by omega)) (by rw [f 160 (by omega)]; exact Nat.le_refl _), t.fr (by rw [f 3 (by omega)]) (f 4 (by omega)) (by rw [f 159 (by omega)]) (f 166 (by omega)), s.fr (fun k a b => f k (by omega)) (f 174 (by omega)) (f 175 (by omega)) (f 176 (by omega)), ⟨L, hc, hr, ho⟩, m.fr (by rw [f 0 (by omega)]) (by rw [f 159 (by omega)]) (f 10 (by omega)) (f 182 (by omega)), n.fr (fun t ht => by rw [f _ (by omega)]), k.fr (f 167 (by omega)) (f 168 (by omega))⟩
/-- the tape alone is another -/
theorem JJ.tape (h : JJ S) (f : ∀ k, k ≠ 3 → k ≠ 4 → k ≠ 159 → k ≠ 166 → S' k = S k) (f9 : ∀ j, j ≠ 8 → S' 159 j = S 159 j) (ht : JT S') : JJ S' := by
  obtain ⟨w, i, t, s, l, m, n, k⟩ := h
  have f1 : ∀ k, 4 < k → k ≠ 159 → k ≠ 166 → S' k = S k := fun k a b c => f k (by omega) (by omega) b c
  have f0 : S' 0 = S 0 := f 0 (by omega) (by omega) (by omega) (by omega)
  exact ⟨w.fr (fun k a b => f1 k (by omega) (by omega) (by omega)) (fun t ht => ⟨f1 _ (by omega) (by omega) (by omega), f1 _ (by omega) (by omega) (by omega)⟩) (f1 160 (by omega) (by omega) (by omega)), i.fr (by rw [f0]) (f9 3 (by omega)) (fun k a b => f1 k (by omega) (by omega) (by omega)) (fun t ht _ => ⟨f1 _ (by omega) (by omega) (by omega), f1 _ (by omega) (by omega) (by omega)⟩) (f1 161 (by omega) (by omega) (by omega)) (by rw [f1 160 (by omega) (by omega) (by omega)]; exact Nat.le_refl _), ht, s.fr (fun k a b => f1 k (by omega) (by omega) (by omega)) (f1 174 (by omega) (by omega) (by omega)) (f1 175 (by omega) (by omega) (by omega)) (f1 176 (by omega) (by omega) (by omega)), l.fr (f1 6 (by omega) (by omega) (by omega)) (f1 9 (by omega) (by omega) (by omega)) (fun k a b => f1 k (by omega) (by omega) (by omega)) (fun k a b => f1 k (by omega) (by omega) (by omega)), m.fr (by rw [f0]) (f9 34 (by omega)) (f1 10 (by omega) (by omega) (by omega)) (f1 182 (by omega) (by omega) (by omega)), n.fr (fun t ht => by rw [f1 _ (by omega) (by omega) (by omega)]), k.fr (f1 167 (by omega) (by omega) (by omega)) (f1 168 (by omega) (by omega) (by omega))⟩
/-- the told numbers are others; what is only thought is changed too -/
theorem JJ.tells (h : JJ S) (f : ∀ k, (k < 64 ∨ 86 ≤ k) → (∀ t, t < 15 → k ≠ 86 + 3 * t + 2) → k ≠ 0 → k ≠ 10 → k ≠ 159 → k ≠ 162 → k ≠ 172 → k ≠ 173 → k ≠ 182 → S' k = S k) (f0 : ∀ j, j ≠ 13 → S' 0 j = S 0 j) (f9 : ∀ j, j ≠ 34 → S' 159 j = S 159 j) (hm : JM S') : JJ S' := by
  obtain ⟨w, i, t, s, l, m, n, k⟩ := h
  have f1 : ∀ k, 0 < k ∧ k < 10 ∨ 10 < k ∧ k < 64 ∨ 131 ≤ k ∧ k < 159 ∨ 159 < k ∧ k < 162 ∨ 162 < k ∧ k < 172 ∨ 173 < k ∧ k < 182 → S' k = S k := fun k hk => f k (by omega) (fun t ht => by omega) (by omega) (by omega) (by omega) (by omega) (by omega) (by omega) (by omega)
  have ft : ∀ t, t < 15 → S' (86 + 3 * t) = S (86 + 3 * t) ∧ S' (86 + 3 * t + 1) = S (86 + 3 * t + 1) := fun t ht => ⟨f _ (by omega) (fun t' _ => by omega) (by omega) (by omega) (by omega) (by omega) (by omega) (by omega) (by omega), f _ (by omega) (fun t' _ => by omega) (by omega) (by omega) (by omega) (by omega) (by omega) (by omega) (by omega)⟩
  exact ⟨w.fr (fun k a b => f1 k (by omega)) (fun t ht => ft t (by omega)) (f1 160 (by omega)), i.fr (f0 4 (by omega)) (f9 3 (by omega)) (fun k a b => f1 k (by omega)) (fun t ht _ => ft t (by omega)) (f1 161 (by omega)) (by rw [f1 160 (by omega)]; exact Nat.le_refl _), t.fr (by rw [f1 3 (by omega)]) (f1 4 (by omega)) (f9 8 (by omega)) (f1 166 (by omega)), s.fr (fun k a b => f1 k (by omega)) (f1 174 (by omega)) (f1 175 (by omega)) (f1 176 (by omega)), l.fr (f1 6 (by omega)) (f1 9 (by omega)) (fun k a b => f1 k (by omega)) (fun k a b => f1 k (by omega)), hm, n.fr (fun t ht => by rw [(ft t ht).1]), k.fr (f1 167 (by omega)) (f1 168 (by omega))⟩
end Fr
