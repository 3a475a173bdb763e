/-! text on both sides: the same answer, and all stands again -/
theorem JJ.tx {S S2 : SS} {t : Nat} (h : JJ S) (hW : JW S2) (hn : tN (S 160) ≤ tN (S2 160)) (htN : tN (S 160) = t) (t14 : t ≤ 14) (f : ∀ k, k ≠ 3 → k ≠ 20 → k ≠ 23 → k ≠ 86 + 3 * t → k ≠ 86 + 3 * t + 1 → k ≠ 159 → k ≠ 160 → (k < 169 ∨ 173 < k) → S2 k = S k) (f9 : ∀ j, (j < 8 ∨ 21 < j) → S2 159 j = S 159 j) (e0 : S2 (86 + 3 * t) 0 = S (86 + 3 * t) 0) (e3 : S2 3 1 = 0) (e8 : S2 159 8 = 0) : JJ S2 := by
  obtain ⟨w, i, -, s, l, m, n, k⟩ := h
  have f1 : ∀ k, k < 3 ∨ 3 < k ∧ k < 20 ∨ 42 ≤ k ∧ k < 86 ∨ 131 ≤ k ∧ k < 159 ∨ 160 < k ∧ k < 169 ∨ 173 < k → S2 k = S k := fun k hk => f k (by omega) (by omega) (by omega) (by omega) (by omega) (by omega) (by omega) (by omega)
  have ft : ∀ t', t' < t → S2 (86 + 3 * t') = S (86 + 3 * t') ∧ S2 (86 + 3 * t' + 1) = S (86 + 3 * t' + 1) := fun t' ht => ⟨f _ (by omega) (by omega) (by omega) (by omega) (by omega) (by omega) (by omega) (by omega), f _ (by omega) (by omega) (by omega) (by omega) (by omega) (by omega) (by omega) (by omega)⟩
  exact ⟨hW, i.fr (by rw [f1 0 (by omega)]) (f9 3 (by omega)) (fun k a b => f1 k (by omega)) (fun t' _ q => ft t' (by omega)) (f1 161 (by omega)) hn, ⟨0, by omega, e3, e8, fun k q => absurd q (by omega), fun k q => absurd q (by omega)⟩, s.fr (fun k a b => f1 k (by omega)) (f1 174 (by omega)) (f1 175 (by omega)) (f1 176 (by omega)), l.fr (f1 6 (by omega)) (f1 9 (by omega)) (fun k a b => f1 k (by omega)) (fun k a b => f1 k (by omega)), m.fr (by rw [f1 0 (by omega)]) (f9 34 (by omega)) (f1 10 (by omega)) (f1 182 (by omega)), n.fr (fun t' ht => by
    by_cases e : t' = t
    · rw [e]
      exact e0
    · rw [f _ (by omega) (by omega) (by omega) (by omega) (by omega) (by omega) (by omega) (by omega)]), k.fr (f1 167 (by omega)) (f1 168 (by omega))⟩
theorem JJ.xt {S S1 S2 : SS} {t : Nat} (h : JJ S) (htN : tN (S 160) = t) (t14 : t ≤ 14) (f1 : XTF t S S1) (e3 : S1 3 1 = 0) (h2 : S2 160 = S 160) (f2 : XFr S1 S2) (e8 : S2 159 8 = 0) : JJ S2 := by
  have f : ∀ k, k ≠ 3 → k ≠ 86 + 3 * t → k ≠ 86 + 3 * t + 1 → k ≠ 159 → k ≠ 160 → (k < 169 ∨ 173 < k) → S2 k = S k := fun k a b c d e g => (f2.2 k d e (by omega) (by omega) (by omega) (by omega) (by omega)).trans (f1.2 k a b c)
  refine h.tx ?_ (by rw [h2]; exact Nat.le_refl _) htN t14 (fun k a _ _ b c d e g => f k a b c d e g) (fun j hj => by rw [f2.1 j hj, f1.2 159 (by omega) (by omega) (by omega)]) ?_ ?_ e8
  · obtain ⟨w1, w2, w3⟩ := h.1
    unfold JW
    rw [h2]
    exact ⟨w1.sm (mN_le w3.1) (fun k a b => f k (by omega) (by omega) (by omega) (by omega) (by omega) (by omega)), w2.lt (fun t' q => ⟨f _ (by omega) (by omega) (by omega) (by omega) (by omega) (by omega), f _ (by omega) (by omega) (by omega) (by omega) (by omega) (by omega)⟩), w3⟩
  · rw [f2.2 _ (by omega) (by omega) (by omega) (by omega) (by omega) (by omega) (by omega)]
    exact f1.1
  · rw [f2.2 3 (by omega) (by omega) (by omega) (by omega) (by omega) (by omega) (by omega)]
    exact e3
theorem JJ.xg {S S1 S2 : SS} {t n key a : Nat} {L : List Int32} (h : JJ S) (htN : tN (S 160) = t) (e14 : S 160 14 = nI t) (t14 : t < 14) (hx : TxR (S 4) n key (some (L, a), 0)) (hb : byOk (S 4) n) (hn : n ≤ 96) (hR : WRep S1 20 (tV (S 160) t key L a)) (hT : TRep S1 (tV (S 160) t key L a)) (f1 : XTG t S S1) (e3 : S1 3 1 = 0) (h2 : S2 160 = tV (S 160) t key L a) (f2 : XFr S1 S2) (e8 : S2 159 8 = 0) : JJ S2 := by
  obtain ⟨hF, hk3⟩ := hx.fin hb hn
  have k3 : key < 3 := hk3 (fun e => by cases e)
  obtain ⟨d1, d2, d3, d4, d5, d6⟩ := hF L a rfl
  obtain ⟨w1, w2, w3, w4, w5, w6⟩ := h.1
  have iv : IV (tV (S 160) t key L a) := w3.text t14 e14 k3 (by omega) d1 d2 d4 hn
  have f3 : ∀ k, k < 159 → S2 k = S1 k := fun k hk => f2.2 k (by omega) (by omega) (by omega) (by omega) (by omega) (by omega) (by omega)
  refine h.tx ?_ (by rw [h2, tV_tN t14]; omega) htN (by omega) (fun k a b c d e g i j => (f2.2 k g i (by omega) (by omega) (by omega) (by omega) (by omega)).trans (f1.2 k a b c d e)) (fun j hj => by rw [f2.1 j hj, f1.2 159 (by omega) (by omega) (by omega) (by omega) (by omega)]) (by rw [f3 _ (by omega)]; exact f1.1) (by rw [f3 3 (by omega)]; exact e3) e8
  unfold JW
  rw [h2]
  exact ⟨hR.sm (mN_le iv) (fun k a b => f3 k (by omega)), hT.sm (tN_le iv) (fun t' ht => ⟨f3 _ (by omega), f3 _ (by omega)⟩), iv, TxK.text w3 w4 t14 e14 k3 (by omega) d3, w5.eq (tV_lo (by omega) (by omega)) (tV_lo (by omega) (by omega)), fun k hk => (tV_old (by omega) (by omega) (by omega) (by omega)).trans (w6 k hk)⟩
section Jt
variable {Θ : Th} {S : SS} {adK adV : Nat → Nat} {fv : Value}
theorem j_text (hX : HasS Θ adK adV fv) (h : JJ S) {Q1 : Int32 → HP → Prop} (hq : ∀ r S1, (∀ {Q2 : Int32 → HP → Prop}, (∀ S2, JJ S2 → Q2 r (lay Θ S2)) → C Θ 129 0 0 yX12_text cX12_text 4 (some .int) [.ref (tb Θ + 159)] 183 (lay Θ S1) (Qi Q2)) → Q1 r (lay Θ S1)) : C Θ 129 0 0 yX11_text cX11_text 3 (some .int) [.ref (tb Θ + 0)] 183 (lay Θ S) (Qi Q1) := by
  obtain ⟨⟨w1, w2, w3, w4, w5, w6⟩, i, ⟨n, hn, t1, t2, t3, t4⟩, s, l, m, nn, ky⟩ := id h
  obtain ⟨t, t14, e14, hok⟩ := w3.2.2.2.2.2
  have htN : tN (S 160) = t := by rw [tN, e14, nI_clamp (by omega)]
  refine s_X11_text (d := 5) hX w1 w2 (mN_le w3) e14 t14 (nn t (by omega)) (fun t' q => (hok t' q).2.1) (b := S 4) (n := n) ⟨t1, fun k _ => rfl⟩ t4 hn ?_ ?_ ?_
  · intro key s0 hx S1 f1 e1
    refine hq _ S1 (fun hq2 => ?_)
    have f9 : ∀ k, 159 ≤ k → S1 k = S k := fun k hk => f1.2 k (by omega) (by omega) (by omega)
    exact s_X12_text (d := 125) (b := S 4) (n := n) ⟨by rw [f9 159 (by omega)]; exact t2, fun k q => by rw [f9 166 (by omega)]; exact t3 k q⟩ (ky.fr (f9 167 (by omega)) (f9 168 (by omega))) t4 hn hx (f9 160 (by omega)) e14 t14 (fun _ S2 h2 f2 e2 => hq2 S2 (h.xt htN t14 f1 e1 h2 f2 e2)) (fun L a e => by cases e) (fun L a e => by cases e)
  · intro key L a hx t9 S1 f1 e1
    refine hq _ S1 (fun hq2 => ?_)
    have f9 : ∀ k, 159 ≤ k → S1 k = S k := fun k hk => f1.2 k (by omega) (by omega) (by omega)
    exact s_X12_text (d := 125) (b := S 4) (n := n) ⟨by rw [f9 159 (by omega)]; exact t2, fun k q => by rw [f9 166 (by omega)]; exact t3 k q⟩ (ky.fr (f9 167 (by omega)) (f9 168 (by omega))) t4 hn hx (f9 160 (by omega)) e14 t14 (fun e => by cases e) (fun L a _ _ S2 h2 f2 e2 => hq2 S2 (h.xt htN t14 f1 e1 h2 f2 e2)) (fun L a _ q => absurd q (by omega))
  · intro key L a hx t9 S1 r1 r2 f1 e1
    refine hq _ S1 (fun hq2 => ?_)
    have f9 : ∀ k, 159 ≤ k → S1 k = S k := fun k hk => f1.2 k (by omega) (by omega) (by omega) (by omega) (by omega)
    refine s_X12_text (d := 125) (b := S 4) (n := n) ⟨by rw [f9 159 (by omega)]; exact t2, fun k q => by rw [f9 166 (by omega)]; exact t3 k q⟩ (ky.fr (f9 167 (by omega)) (f9 168 (by omega))) t4 hn hx (f9 160 (by omega)) e14 t14 (fun e => by cases e) (fun L a _ q => absurd q (by omega)) (fun L2 a2 e _ S2 h2 f2 e2 => hq2 S2 ?_)
    cases e
    exact h.xg htN e14 t9 hx t4 hn r1 r2 f1 e1 h2 f2 e2
end Jt
