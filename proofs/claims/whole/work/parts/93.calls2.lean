/-! each call on both sides: the same answer, and all stands again -/
theorem RSh.fr {S S1 : SS} {X : SH} (h : RSh S X) (f : ∀ k, 159 ≤ k → S1 k = S k) : RSh S1 X := fun s hs => by
  rw [f 174 (by omega), f 175 (by omega), f 176 (by omega)]
  exact h s hs
theorem RSl.fr {S S1 : SS} {L : SL} (h : RSl S L) (f : ∀ k, 159 ≤ k → S1 k = S k) : RSl S1 L := fun s hs => by
  rw [f 177 (by omega), f 178 (by omega), f 179 (by omega), f 180 (by omega)]
  exact h s hs
theorem CSh.fr {S S1 : SS} {X : SH} (h : CSh S X) (f : ∀ k, k < 159 → S1 k = S k) : CSh S1 X := fun s hs => by
  rw [f _ (by omega), f _ (by omega)]
  exact h s hs
theorem CSl.fr {S S1 : SS} {L : SL} (h : CSl S L) (f : ∀ k, k < 159 → S1 k = S k) : CSl S1 L := fun s hs => by
  unfold sl1 sl2
  rw [f 6 (by omega), f 9 (by omega), f _ (by omega), f _ (by omega), f _ (by omega)]
  exact h s hs
theorem osh_sheet {X : SH} {x y z : Int32} (h : OSh X) : OSh (sheetR X x y z).2 := by
  unfold sheetR
  cases h1 : ix x 4 with
  | none => exact h
  | some s =>
    simp only [Option.elim]
    by_cases c : -1 ≤ y ∧ y ≤ 1
    · rw [if_pos c]
      by_cases c1 : y < 0
      · rw [if_pos c1]
        refine h.set (Or.inl ?_) (by omega)
        have e1 : (-1 : Int) ≤ y.toInt := Int32.le_iff_toInt_le.mp c.1
        have e2 : y.toInt < 0 := Int32.lt_iff_toInt_lt.mp c1
        exact Int32.toInt_inj.mp ((show y.toInt = -1 by omega).trans (by decide))
      · rw [if_neg c1]
        by_cases c2 : 24 < z
        · rw [if_pos c2]
          exact h
        · rw [if_neg c2]
          by_cases c3 : z < 0
          · rw [if_pos c3]
            exact h
          · rw [if_neg c3]
            obtain ⟨t, ht, rfl⟩ := le_ix (n := 1) (i_nlt c1) c.2 (by decide)
            obtain ⟨q, hq, rfl⟩ := le_ix (n := 24) (i_nlt c3) (i_nlt c2) (by decide)
            rw [nI_clamp (by omega)]
            refine h.set (Or.inr ?_) hq
            rcases (show t = 0 ∨ t = 1 by omega) with rfl | rfl
            · exact Or.inl rfl
            · exact Or.inr rfl
    · rw [if_neg c]
      exact h
theorem osh_mark {X : SH} {x y z : Int32} (h : OSh X) : OSh (markR X x y z).2 := by
  unfold markR
  cases h1 : ix x 4 with
  | none => exact h
  | some s =>
    simp only [Option.elim]
    by_cases c : X.1 s < 0
    · rw [if_pos c]; exact h
    · rw [if_neg c]
      cases h2 : ix y (X.2.1 s) with
      | none => exact h
      | some k =>
        simp only
        by_cases c1 : X.1 s = 0
        · rw [if_pos c1]
          by_cases c2 : z = nobody
          · rw [if_pos c2]; exact h
          · rw [if_neg c2]; exact fun i hi => h i hi
        · rw [if_neg c1]
          by_cases c2 : ¬ z = nobody ∧ ¬ (-99999 ≤ z ∧ z ≤ 99999)
          · rw [if_pos c2]; exact h
          · rw [if_neg c2]; exact fun i hi => h i hi
theorem osh_copy {X : SH} {x p y q m : Int32} (h : OSh X) : OSh (copyR X x p y q m).2 := by
  unfold copyR
  cases h1 : ix x 4 with
  | none => exact h
  | some s =>
    cases h2 : ix y 4 with
    | none => exact h
    | some t =>
      simp only [Option.elim]
      by_cases c : X.1 s < 0 ∨ X.1 t < 0
      · rw [if_pos c]; exact h
      · rw [if_neg c]
        by_cases c1 : ¬ X.1 s = X.1 t
        · rw [if_pos c1]; exact h
        · rw [if_neg c1]
          by_cases c2 : cpD p q m (X.2.1 s) (X.2.1 t)
          · rw [if_pos c2]; exact fun i hi => h i hi
          · rw [if_neg c2]; exact h
theorem osl_lay {L : SL} {X : SH} {v : WV} {x y z : Int32} (h : OSl L) (oX : OSh X) : OSl (layR L X v x y z).2 := by
  unfold layR
  cases h1 : ix x 5 with
  | none => exact h
  | some i =>
    simp only [Option.elim]
    by_cases c : 0 ≤ y ∧ y ≤ 3
    · rw [if_pos c]
      by_cases c1 : y = 1
      · rw [if_pos c1]
        cases h2 : ix z (mN v) with
        | none => exact h
        | some p => exact h.set (tn := 1) (by omega) rfl (fun e => absurd e (by decide))
      · rw [if_neg c1]
        by_cases c2 : y = 2
        · rw [if_pos c2]
          cases h2 : ix z 4 with
          | none => exact h
          | some s =>
            simp only
            by_cases c3 : X.1 s < 0
            · rw [if_pos c3]; exact h
            · rw [if_neg c3]
              exact h.set (tn := 2) (by omega) rfl (fun _ => ⟨_, (oX s (ix_lt (by decide) h2).1).2, rfl⟩)
        · rw [if_neg c2]
          obtain ⟨t, ht, rfl⟩ := le_ix (n := 3) c.1 c.2 (by decide)
          exact h.set (tn := t) (by omega) rfl (fun e => absurd e c2)
    · rw [if_neg c]
      exact h
theorem FrS.of {S S1 S2 : SS} (hg : WG S S1) (h0 : S2 160 = S 160) (hm : ∀ k, k ≠ 160 → (k < 162 ∨ 165 < k) → (k < 169 ∨ 173 < k) → S2 k = S1 k) : FrS S S2 := by
  intro k a b c d e f
  by_cases q : k = 160
  · rw [q]
    exact h0
  · exact (hm k q d e).trans (hg k a b (by omega) (by omega) (by omega))
section Jc
variable {Θ : Th} {S : SS}
theorem j_told {x1 x2 : Int32} (h : JJ S) {Q1 : Int32 → HP → Prop} (hq : ∀ r S1, (∀ {Q2 : Int32 → HP → Prop}, (∀ S2, JJ S2 → Q2 r (lay Θ S2)) → C Θ 129 0 0 yX12_told cX12_told 3 (some .int) [.ref (tb Θ + 159), .int x1, .int x2] 183 (lay Θ S1) (Qi Q2)) → Q1 r (lay Θ S1)) : C Θ 129 0 0 yX11_told cX11_told 4 (some .int) [.ref (tb Θ + 0), .int x1, .int x2] 183 (lay Θ S) (Qi Q1) := by
  obtain ⟨m, hm9, hm, hmm, hpa⟩ := mn_iv h.1.2.2.1
  exact s_X11_told (d := 127) h.1.1 hm hmm hm9 hpa (hq _ S (fun hq2 => s_X12_told (d := 127) rfl hm hmm hm9 (hq2 S h)))
theorem j_view {x1 x2 : Int32} (h : JJ S) {Q1 : Int32 → HP → Prop} (hq : ∀ r S1, (∀ {Q2 : Int32 → HP → Prop}, (∀ S2, JJ S2 → Q2 r (lay Θ S2)) → C Θ 129 0 0 yX12_view cX12_view 3 (some .int) [.ref (tb Θ + 159), .int x1, .int x2] 183 (lay Θ S1) (Qi Q2)) → Q1 r (lay Θ S1)) : C Θ 129 0 0 yX11_view cX11_view 3 (some .int) [.ref (tb Θ + 0), .int x1, .int x2] 183 (lay Θ S) (Qi Q1) := by
  obtain ⟨m, hm9, hm, hmm, hpa⟩ := mn_iv h.1.2.2.1
  exact s_X11_view (d := 127) h.1.1 hm hmm hm9 (hq _ S (fun hq2 => s_X12_view (d := 127) rfl hm hmm hm9 (hq2 S h)))
theorem j_as {x1 x2 : Int32} (h : JJ S) {Q1 : Int32 → HP → Prop} (hq : ∀ r S1, (∀ {Q2 : Int32 → HP → Prop}, (∀ S2, JJ S2 → Q2 r (lay Θ S2)) → C Θ 129 0 0 yX12_as cX12_as 3 (some .int) [.ref (tb Θ + 159), .int x1, .int x2] 183 (lay Θ S1) (Qi Q2)) → Q1 r (lay Θ S1)) : C Θ 129 0 0 yX11_as cX11_as 4 (some .int) [.ref (tb Θ + 0), .int x1, .int x2] 183 (lay Θ S) (Qi Q1) := by
  obtain ⟨m, hm9, hm, hmm, hpa⟩ := mn_iv h.1.2.2.1
  exact s_X11_as (d := 126) h.1.1 hm hmm hm9 hpa (hq _ S (fun hq2 => s_X12_as (d := 127) rfl hm hmm hm9 (hq2 S h)))
theorem j_boat {x1 : Int32} (h : JJ S) {Q1 : Int32 → HP → Prop} (hq : ∀ r S1, (∀ {Q2 : Int32 → HP → Prop}, (∀ S2, JJ S2 → Q2 r (lay Θ S2)) → C Θ 129 0 0 yX12_boat cX12_boat 2 (some .int) [.ref (tb Θ + 159), .int x1] 183 (lay Θ S1) (Qi Q2)) → Q1 r (lay Θ S1)) : C Θ 129 0 0 yX11_boat cX11_boat 3 (some .int) [.ref (tb Θ + 0), .int x1] 183 (lay Θ S) (Qi Q1) := by
  obtain ⟨g, hg, e6, -⟩ := h.1.2.2.1.2.2.1
  exact s_X11_boat (d := 129) h.1.1 hg e6 (hq _ S (fun hq2 => s_X12_boat (d := 128) rfl (hq2 S h)))
theorem j_ferry {x1 : Int32} (h : JJ S) {Q1 : Int32 → HP → Prop} (hq : ∀ r S1, (∀ {Q2 : Int32 → HP → Prop}, (∀ S2, JJ S2 → Q2 r (lay Θ S2)) → C Θ 129 0 0 yX12_ferry cX12_ferry 2 (some .int) [.ref (tb Θ + 159), .int x1] 183 (lay Θ S1) (Qi Q2)) → Q1 r (lay Θ S1)) : C Θ 129 0 0 yX11_ferry cX11_ferry 2 (some .int) [.ref (tb Θ + 0), .int x1] 183 (lay Θ S) (Qi Q1) := by
  obtain ⟨m, hm9, hm, hmm, hpa⟩ := mn_iv h.1.2.2.1
  exact s_X11_ferry (d := 127) h.1.1 hm hmm hm9 (hq _ S (fun hq2 => s_X12_ferry (d := 127) rfl hm hmm hm9 (hq2 S h)))
theorem j_textTold {x1 x2 : Int32} (h : JJ S) {Q1 : Int32 → HP → Prop} (hq : ∀ r S1, (∀ {Q2 : Int32 → HP → Prop}, (∀ S2, JJ S2 → Q2 r (lay Θ S2)) → C Θ 129 0 0 yX12_textTold cX12_textTold 3 (some .int) [.ref (tb Θ + 159), .int x1, .int x2] 183 (lay Θ S1) (Qi Q2)) → Q1 r (lay Θ S1)) : C Θ 129 0 0 yX11_textTold cX11_textTold 3 (some .int) [.ref (tb Θ + 0), .int x1, .int x2] 183 (lay Θ S) (Qi Q1) := by
  exact s_X11_textTold (d := 128) h.1.1 h.1.2.2.1 h.1.2.1 (hq _ S (fun hq2 => s_X12_textTold (d := 128) rfl h.1.2.2.1 (hq2 S h)))
theorem j_why {x1 : Int32} (h : JJ S) {Q1 : Int32 → HP → Prop} (hq : ∀ r S1, (∀ {Q2 : Int32 → HP → Prop}, (∀ S2, JJ S2 → Q2 r (lay Θ S2)) → C Θ 129 0 0 yX12_why cX12_why 3 (some .int) [.ref (tb Θ + 159), .int x1] 183 (lay Θ S1) (Qi Q2)) → Q1 r (lay Θ S1)) : C Θ 129 0 0 yX11_why cX11_why 3 (some .int) [.ref (tb Θ + 0), .int x1] 183 (lay Θ S) (Qi Q1) := by
  exact s_X11_why (d := 128) h.1.1 h.1.2.2.1 h.2.2.2.2.2.2.1 (hq _ S (fun hq2 => s_X12_why (d := 128) rfl h.1.2.2.1 (hq2 S h)))
theorem j_reads {x1 : Int32} (h : JJ S) {Q1 : Int32 → HP → Prop} (hq : ∀ r S1, (∀ {Q2 : Int32 → HP → Prop}, (∀ S2, JJ S2 → Q2 r (lay Θ S2)) → C Θ 129 0 0 yX12_reads cX12_reads 4 (some .int) [.ref (tb Θ + 159), .int x1] 183 (lay Θ S1) (Qi Q2)) → Q1 r (lay Θ S1)) : C Θ 129 0 0 yX11_reads cX11_reads 5 (some .int) [.ref (tb Θ + 0), .int x1] 183 (lay Θ S) (Qi Q1) := by
  obtain ⟨m, hm9, hm, hmm, hpa⟩ := mn_iv h.1.2.2.1
  obtain ⟨X, hX, hY, oX⟩ := h.2.2.2.1
  exact s_X11_reads (d := 127) h.1.1 hm hmm hm9 hX oX (hq _ S (fun hq2 => s_X12_reads (d := 127) rfl hm hmm hm9 hY oX (hq2 S h)))
theorem j_ask {x1 x2 : Int32} (h : JJ S) {Q1 : Int32 → HP → Prop} (hq : ∀ r S1, (∀ {Q2 : Int32 → HP → Prop}, (∀ S2, JJ S2 → Q2 r (lay Θ S2)) → C Θ 129 0 0 yX12_ask cX12_ask 3 (some .int) [.ref (tb Θ + 159), .int x1, .int x2] 183 (lay Θ S1) (Qi Q2)) → Q1 r (lay Θ S1)) : C Θ 129 0 0 yX11_ask cX11_ask 4 (some .int) [.ref (tb Θ + 0), .int x1, .int x2] 183 (lay Θ S) (Qi Q1) := by
  obtain ⟨L, hL, hK, oL⟩ := h.2.2.2.2.1
  exact s_X11_ask (d := 126) hL (hq _ S (fun hq2 => s_X12_ask (d := 127) hK (hq2 S h)))
theorem j_item {x1 x2 : Int32} (h : JJ S) {Q1 : Int32 → HP → Prop} (hq : ∀ r S1, (∀ {Q2 : Int32 → HP → Prop}, (∀ S2, JJ S2 → Q2 r (lay Θ S2)) → C Θ 129 0 0 yX12_item cX12_item 4 (some .int) [.ref (tb Θ + 159), .int x1, .int x2] 183 (lay Θ S1) (Qi Q2)) → Q1 r (lay Θ S1)) : C Θ 129 0 0 yX11_item cX11_item 4 (some .int) [.ref (tb Θ + 0), .int x1, .int x2] 183 (lay Θ S) (Qi Q1) := by
  obtain ⟨L, hL, hK, oL⟩ := h.2.2.2.2.1
  exact s_X11_item (d := 127) hL (hq _ S (fun hq2 => s_X12_item (d := 127) hK oL (hq2 S h)))
theorem j_rest {x1 x2 : Int32} (h : JJ S) {Q1 : Int32 → HP → Prop} (hq : ∀ r S1, (∀ {Q2 : Int32 → HP → Prop}, (∀ S2, JJ S2 → Q2 r (lay Θ S2)) → C Θ 129 0 0 yX12_rest cX12_rest 3 (some .int) [.ref (tb Θ + 159), .int x1, .int x2] 183 (lay Θ S1) (Qi Q2)) → Q1 r (lay Θ S1)) : C Θ 129 0 0 yX11_rest cX11_rest 3 (some .int) [.ref (tb Θ + 0), .int x1, .int x2] 183 (lay Θ S) (Qi Q1) := by
  obtain ⟨L, hL, hK, oL⟩ := h.2.2.2.2.1
  exact s_X11_rest (d := 127) hL (hq _ S (fun hq2 => s_X12_rest (d := 127) hK (hq2 S h)))
theorem j_count {x1 : Int32} (h : JJ S) {Q1 : Int32 → HP → Prop} (hq : ∀ r S1, (∀ {Q2 : Int32 → HP → Prop}, (∀ S2, JJ S2 → Q2 r (lay Θ S2)) → C Θ 129 0 0 yX12_count cX12_count 2 (some .int) [.ref (tb Θ + 159), .int x1] 183 (lay Θ S1) (Qi Q2)) → Q1 r (lay Θ S1)) : C Θ 129 0 0 yX11_count cX11_count 2 (some .int) [.ref (tb Θ + 0), .int x1] 183 (lay Θ S) (Qi Q1) := by
  obtain ⟨n, -, a1, a2, -⟩ := h.2.2.2.2.2.1
  obtain ⟨q, -, b1, b2, -⟩ := h.2.2.1
  exact s_X11_count (d := 129) h.1.1 (hq _ S (fun hq2 => s_X12_count (d := 129) rfl (by rw [a2, b2, ← a1, ← b1]; exact hq2 S h)))
theorem j_over {x1 x2 x3 : Int32} (h : JJ S) {Q1 : Int32 → HP → Prop} (hq : ∀ r S1, (∀ {Q2 : Int32 → HP → Prop}, (∀ S2, JJ S2 → Q2 r (lay Θ S2)) → C Θ 129 0 0 yX12_over cX12_over 5 (some .int) [.ref (tb Θ + 159), .int x1, .int x2, .int x3] 183 (lay Θ S1) (Qi Q2)) → Q1 r (lay Θ S1)) : C Θ 129 0 0 yX11_over cX11_over 4 (some .int) [.ref (tb Θ + 0), .int x1, .int x2, .int x3] 183 (lay Θ S) (Qi Q1) := by
  obtain ⟨k0, c0, g2, g10, gc, gk⟩ := h.1.2.2.2.2.1
  refine s_X11_over (d := 122) h.1.1 h.1.2.2.1 h.1.2.1 (c := c0) (by omega) g10 (fun S1 f1 => hq _ S1 (fun hq2 => ?_))
  have f9 : ∀ k, 159 ≤ k → S1 k = S k := (fun k hk => f1 k (by omega) (fun t ht => by omega))
  exact s_X12_over (d := 123) (f9 160 (by omega)) h.1.2.2.1 (fun S2 h2 f2 => hq2 S2 (h.scr (FrS.of f1.wg h2 (fun k a b c => f2 k a (by omega) (by omega) (by omega)))))
theorem j_settles {x1 x2 x3 : Int32} (h : JJ S) {Q1 : Int32 → HP → Prop} (hq : ∀ r S1, (∀ {Q2 : Int32 → HP → Prop}, (∀ S2, JJ S2 → Q2 r (lay Θ S2)) → C Θ 129 0 0 yX12_settles cX12_settles 4 (some .int) [.ref (tb Θ + 159), .int x1, .int x2, .int x3] 183 (lay Θ S1) (Qi Q2)) → Q1 r (lay Θ S1)) : C Θ 129 0 0 yX11_settles cX11_settles 8 (some .int) [.ref (tb Θ + 0), .int x1, .int x2, .int x3] 183 (lay Θ S) (Qi Q1) := by
  obtain ⟨k0, c0, g2, g10, gc, gk⟩ := h.1.2.2.2.2.1
  refine s_X11_settles (d := 122) h.1.1 h.1.2.2.1 h.1.2.1 (c := c0) (by omega) g10 (fun S1 f1 => hq _ S1 (fun hq2 => ?_))
  have f9 : ∀ k, 159 ≤ k → S1 k = S k := (fun k hk => f1 k (by omega) (fun t ht => by omega))
  exact s_X12_settles (d := 122) (f9 160 (by omega)) h.1.2.2.1 (fun S2 h2 f2 => hq2 S2 (h.scr (FrS.of f1.wg h2 (fun k a b c => f2 k a (by omega) (by omega) (by omega)))))
theorem j_pairs {x1 : Int32} (h : JJ S) {Q1 : Int32 → HP → Prop} (hq : ∀ r S1, (∀ {Q2 : Int32 → HP → Prop}, (∀ S2, JJ S2 → Q2 r (lay Θ S2)) → C Θ 129 0 0 yX12_pairs cX12_pairs 5 (some .int) [.ref (tb Θ + 159), .int x1] 183 (lay Θ S1) (Qi Q2)) → Q1 r (lay Θ S1)) : C Θ 129 0 0 yX11_pairs cX11_pairs 2 (some .int) [.ref (tb Θ + 0), .int x1] 183 (lay Θ S) (Qi Q1) := by
  obtain ⟨k0, c0, g2, g10, gc, gk⟩ := h.1.2.2.2.2.1
  refine s_X11_pairs (d := 121) h.1.1 h.1.2.2.1 h.1.2.1 (c := c0) (by omega) g10 (fun S1 f1 => hq _ S1 (fun hq2 => ?_))
  have f9 : ∀ k, 159 ≤ k → S1 k = S k := (fun k hk => f1 k (by omega) (fun t ht => by omega) (by omega) (by omega) (by omega))
  exact s_X12_pairs (d := 119) (f9 160 (by omega)) h.1.2.2.1 (fun S2 h2 f2 => hq2 S2 (h.scr (FrS.of f1 h2 (fun k a b c => f2 k a (by omega) (by omega) (by omega) (by omega)))))
theorem j_behind {x1 x2 : Int32} (h : JJ S) {Q1 : Int32 → HP → Prop} (hq : ∀ r S1, (∀ {Q2 : Int32 → HP → Prop}, (∀ S2, JJ S2 → Q2 r (lay Θ S2)) → C Θ 129 0 0 yX12_behind cX12_behind 4 (some .int) [.ref (tb Θ + 159), .int x1, .int x2] 183 (lay Θ S1) (Qi Q2)) → Q1 r (lay Θ S1)) : C Θ 129 0 0 yX11_behind cX11_behind 3 (some .int) [.ref (tb Θ + 0), .int x1, .int x2] 183 (lay Θ S) (Qi Q1) := by
  refine s_X11_behind (d := 122) h.1.1 h.1.2.2.1 h.1.2.1 (fun S1 f1 => hq _ S1 (fun hq2 => ?_))
  have f9 : ∀ k, 159 ≤ k → S1 k = S k := (fun k hk => f1 k (by omega) (fun t ht => by omega))
  exact s_X12_behind (d := 123) (f9 160 (by omega)) h.1.2.2.1 (fun S2 h2 f2 => hq2 S2 (h.scr (FrS.of f1.wg h2 (fun k a b c => f2 k a (by omega) (by omega) (by omega)))))
theorem j_lands {x1 : Int32} (h : JJ S) {Q1 : Int32 → HP → Prop} (hq : ∀ r S1, (∀ {Q2 : Int32 → HP → Prop}, (∀ S2, JJ S2 → Q2 r (lay Θ S2)) → C Θ 129 0 0 yX12_lands cX12_lands 3 (some .int) [.ref (tb Θ + 159), .int x1] 183 (lay Θ S1) (Qi Q2)) → Q1 r (lay Θ S1)) : C Θ 129 0 0 yX11_lands cX11_lands 4 (some .int) [.ref (tb Θ + 0), .int x1] 183 (lay Θ S) (Qi Q1) := by
  refine s_X11_lands (d := 123) h.1.1 h.1.2.2.1 h.1.2.1 (fun S1 f1 => hq _ S1 (fun hq2 => ?_))
  have f9 : ∀ k, 159 ≤ k → S1 k = S k := (fun k hk => f1 k (by omega) (fun t ht => by omega))
  exact s_X12_lands (d := 124) (f9 160 (by omega)) h.1.2.2.1 (fun S2 h2 f2 => hq2 S2 (h.scr (FrS.of f1.wg h2 (fun k a b c => f2 k a (by omega) (by omega) (by omega)))))
theorem j_calm {x1 x2 : Int32} (h : JJ S) {Q1 : Int32 → HP → Prop} (hq : ∀ r S1, (∀ {Q2 : Int32 → HP → Prop}, (∀ S2, JJ S2 → Q2 r (lay Θ S2)) → C Θ 129 0 0 yX12_calm cX12_calm 7 (some .int) [.ref (tb Θ + 159), .int x1, .int x2] 183 (lay Θ S1) (Qi Q2)) → Q1 r (lay Θ S1)) : C Θ 129 0 0 yX11_calm cX11_calm 6 (some .int) [.ref (tb Θ + 0), .int x1, .int x2] 183 (lay Θ S) (Qi Q1) := by
  refine s_X11_calm (d := 122) h.1.1 h.1.2.2.1 h.1.2.1 (fun S1 f1 => hq _ S1 (fun hq2 => ?_))
  have f9 : ∀ k, 159 ≤ k → S1 k = S k := (fun k hk => f1 k (by omega) (fun t ht => by omega))
  exact s_X12_calm (d := 122) (f9 160 (by omega)) h.1.2.2.1 (fun S2 h2 f2 => hq2 S2 (h.scr (FrS.of f1.wg h2 (fun k a b c => f2 k a (by omega) (by omega) (by omega)))))
theorem j_becomes {x1 x2 x3 : Int32} (h : JJ S) {Q1 : Int32 → HP → Prop} (hq : ∀ r S1, (∀ {Q2 : Int32 → HP → Prop}, (∀ S2, JJ S2 → Q2 r (lay Θ S2)) → C Θ 129 0 0 yX12_becomes cX12_becomes 8 (some .int) [.ref (tb Θ + 159), .int x1, .int x2, .int x3] 183 (lay Θ S1) (Qi Q2)) → Q1 r (lay Θ S1)) : C Θ 129 0 0 yX11_becomes cX11_becomes 7 (some .int) [.ref (tb Θ + 0), .int x1, .int x2, .int x3] 183 (lay Θ S) (Qi Q1) := by
  refine s_X11_becomes (d := 122) h.1.1 h.1.2.2.1 h.1.2.1 (fun S1 f1 => hq _ S1 (fun hq2 => ?_))
  have f9 : ∀ k, 159 ≤ k → S1 k = S k := (fun k hk => f1 k (by omega) (fun t ht => by omega))
  exact s_X12_becomes (d := 122) (f9 160 (by omega)) h.1.2.2.1 (fun S2 h2 f2 => hq2 S2 (h.scr (FrS.of f1.wg h2 (fun k a b c => f2 k a (by omega) (by omega) (by omega)))))
theorem j_like {x1 x2 : Int32} (h : JJ S) {Q1 : Int32 → HP → Prop} (hq : ∀ r S1, (∀ {Q2 : Int32 → HP → Prop}, (∀ S2, JJ S2 → Q2 r (lay Θ S2)) → C Θ 129 0 0 yX12_like cX12_like 7 (some .int) [.ref (tb Θ + 159), .int x1, .int x2] 183 (lay Θ S1) (Qi Q2)) → Q1 r (lay Θ S1)) : C Θ 129 0 0 yX11_like cX11_like 5 (some .int) [.ref (tb Θ + 0), .int x1, .int x2] 183 (lay Θ S) (Qi Q1) := by
  obtain ⟨X, hX, hY, oX⟩ := h.2.2.2.1
  refine s_X11_like (d := 122) h.1.1 h.1.2.2.1 h.1.2.1 hX oX (fun S1 f1 => hq _ S1 (fun hq2 => ?_))
  have f9 : ∀ k, 159 ≤ k → S1 k = S k := (fun k hk => f1 k (by omega) (fun t ht => by omega) (by omega) (by omega) (by omega))
  exact s_X12_like (d := 123) (f9 160 (by omega)) h.1.2.2.1 (hY.fr f9) oX (fun S2 h2 f2 => hq2 S2 (h.scr (FrS.of f1 h2 (fun k a b c => f2 k a (by omega) (by omega) (by omega) (by omega)))))
theorem j_fee (h : JJ S) {Q1 : Int32 → HP → Prop} (hq : ∀ r S1, (∀ {Q2 : Int32 → HP → Prop}, (∀ S2, JJ S2 → Q2 r (lay Θ S2)) → C Θ 129 0 0 yX12_fee cX12_fee 2 (some .int) [.ref (tb Θ + 159)] 183 (lay Θ S1) (Qi Q2)) → Q1 r (lay Θ S1)) : C Θ 129 0 0 yX11_fee cX11_fee 3 (some .int) [.ref (tb Θ + 0)] 183 (lay Θ S) (Qi Q1) := by
  refine s_X11_fee (d := 127) h.1.1 h.1.2.2.1 h.1.2.1 (fun S1 f1 => hq _ S1 (fun hq2 => ?_))
  have f9 : ∀ k, 159 ≤ k → S1 k = S k := (fun k hk => f1 k (by omega) (fun t ht => by omega))
  exact s_X12_fee (d := 127) (f9 160 (by omega)) h.1.2.2.1 h.1.2.2.2.1 (fun S2 h2 f2 => hq2 S2 (h.scr (FrS.of f1.wg h2 (fun k a b c => f2 k a (by omega) (by omega)))))
theorem j_fine {x1 : Int32} (h : JJ S) {Q1 : Int32 → HP → Prop} (hq : ∀ r S1, (∀ {Q2 : Int32 → HP → Prop}, (∀ S2, JJ S2 → Q2 r (lay Θ S2)) → C Θ 129 0 0 yX12_fine cX12_fine 3 (some .int) [.ref (tb Θ + 159), .int x1] 183 (lay Θ S1) (Qi Q2)) → Q1 r (lay Θ S1)) : C Θ 129 0 0 yX11_fine cX11_fine 4 (some .int) [.ref (tb Θ + 0), .int x1] 183 (lay Θ S) (Qi Q1) := by
  refine s_X11_fine (d := 127) h.1.1 h.1.2.2.1 h.1.2.1 (fun S1 f1 => hq _ S1 (fun hq2 => ?_))
  have f9 : ∀ k, 159 ≤ k → S1 k = S k := (fun k hk => f1 k (by omega) (fun t ht => by omega))
  exact s_X12_fine (d := 127) (f9 160 (by omega)) h.1.2.2.1 h.1.2.2.2.1 (fun S2 h2 f2 => hq2 S2 (h.scr (FrS.of f1.wg h2 (fun k a b c => f2 k a (by omega) (by omega)))))
theorem j_one {x1 x2 : Int32} (h : JJ S) {Q1 : Int32 → HP → Prop} (hq : ∀ r S1, (∀ {Q2 : Int32 → HP → Prop}, (∀ S2, JJ S2 → Q2 r (lay Θ S2)) → C Θ 129 0 0 yX12_one cX12_one 3 (some .int) [.ref (tb Θ + 159), .int x1, .int x2] 183 (lay Θ S1) (Qi Q2)) → Q1 r (lay Θ S1)) : C Θ 129 0 0 yX11_one cX11_one 3 (some .int) [.ref (tb Θ + 0), .int x1, .int x2] 183 (lay Θ S) (Qi Q1) := by
  obtain ⟨m, hm9, hm, hmm, hpa⟩ := mn_iv h.1.2.2.1
  refine s_X11_one (d := 127) h.1.1 hm hmm hm9 (fun S1 hR f1 => hq _ S1 (fun hq2 => ?_))
  have f9 : ∀ k, 159 ≤ k → S1 k = S k := fun k hk => f1 k (by omega) (fun t ht => by omega)
  exact s_X12_one (d := 127) (f9 160 (by omega)) hm hmm hm9 (fun S2 h2 f2 => hq2 S2 (h.world hR f1 h2 f2 (ok_one h.1.2.2.1 h.1.2.2.2.2.1)))
theorem j_believes {x1 x2 x3 : Int32} (h : JJ S) {Q1 : Int32 → HP → Prop} (hq : ∀ r S1, (∀ {Q2 : Int32 → HP → Prop}, (∀ S2, JJ S2 → Q2 r (lay Θ S2)) → C Θ 129 0 0 yX12_believes cX12_believes 4 (some .int) [.ref (tb Θ + 159), .int x1, .int x2, .int x3] 183 (lay Θ S1) (Qi Q2)) → Q1 r (lay Θ S1)) : C Θ 129 0 0 yX11_believes cX11_believes 6 (some .int) [.ref (tb Θ + 0), .int x1, .int x2, .int x3] 183 (lay Θ S) (Qi Q1) := by
  obtain ⟨m, hm9, hm, hmm, hpa⟩ := mn_iv h.1.2.2.1
  refine s_X11_believes (d := 127) h.1.1 hm hmm hm9 (fun S1 hR f1 => hq _ S1 (fun hq2 => ?_))
  have f9 : ∀ k, 159 ≤ k → S1 k = S k := fun k hk => f1 k (by omega) (fun t ht => by omega)
  exact s_X12_believes (d := 127) (f9 160 (by omega)) hm hmm hm9 (fun S2 h2 f2 => hq2 S2 (h.world hR f1 h2 f2 (ok_bel h.1.2.2.1 h.1.2.2.2.2.1)))
theorem j_turns {x1 x2 : Int32} (h : JJ S) {Q1 : Int32 → HP → Prop} (hq : ∀ r S1, (∀ {Q2 : Int32 → HP → Prop}, (∀ S2, JJ S2 → Q2 r (lay Θ S2)) → C Θ 129 0 0 yX12_turns cX12_turns 3 (some .int) [.ref (tb Θ + 159), .int x1, .int x2] 183 (lay Θ S1) (Qi Q2)) → Q1 r (lay Θ S1)) : C Θ 129 0 0 yX11_turns cX11_turns 5 (some .int) [.ref (tb Θ + 0), .int x1, .int x2] 183 (lay Θ S) (Qi Q1) := by
  obtain ⟨m, hm9, hm, hmm, hpa⟩ := mn_iv h.1.2.2.1
  refine s_X11_turns (d := 127) h.1.1 hm hmm hm9 hpa (fun S1 hR f1 => hq _ S1 (fun hq2 => ?_))
  have f9 : ∀ k, 159 ≤ k → S1 k = S k := fun k hk => f1 k (by omega) (fun t ht => by omega)
  exact s_X12_turns (d := 127) (f9 160 (by omega)) hm hmm hm9 (fun S2 h2 f2 => hq2 S2 (h.world hR f1 h2 f2 (ok_turns h.1.2.2.1 h.1.2.2.2.2.1)))
theorem j_set {x1 x2 x3 : Int32} (h : JJ S) {Q1 : Int32 → HP → Prop} (hq : ∀ r S1, (∀ {Q2 : Int32 → HP → Prop}, (∀ S2, JJ S2 → Q2 r (lay Θ S2)) → C Θ 129 0 0 yX12_set cX12_set 4 (some .int) [.ref (tb Θ + 159), .int x1, .int x2, .int x3] 183 (lay Θ S1) (Qi Q2)) → Q1 r (lay Θ S1)) : C Θ 129 0 0 yX11_set cX11_set 6 (some .int) [.ref (tb Θ + 0), .int x1, .int x2, .int x3] 183 (lay Θ S) (Qi Q1) := by
  obtain ⟨m, hm9, hm, hmm, hpa⟩ := mn_iv h.1.2.2.1
  refine s_X11_set (d := 127) h.1.1 hm hmm hm9 (fun S1 hR f1 => hq _ S1 (fun hq2 => ?_))
  have f9 : ∀ k, 159 ≤ k → S1 k = S k := fun k hk => f1 k (by omega) (fun t ht => by omega)
  exact s_X12_set (d := 127) (f9 160 (by omega)) hm hmm hm9 (fun S2 h2 f2 => hq2 S2 (h.world hR f1 h2 f2 (ok_set h.1.2.2.1 h.1.2.2.2.2.1)))
theorem j_rule {x1 x2 : Int32} (h : JJ S) {Q1 : Int32 → HP → Prop} (hq : ∀ r S1, (∀ {Q2 : Int32 → HP → Prop}, (∀ S2, JJ S2 → Q2 r (lay Θ S2)) → C Θ 129 0 0 yX12_rule cX12_rule 3 (some .int) [.ref (tb Θ + 159), .int x1, .int x2] 183 (lay Θ S1) (Qi Q2)) → Q1 r (lay Θ S1)) : C Θ 129 0 0 yX11_rule cX11_rule 4 (some .int) [.ref (tb Θ + 0), .int x1, .int x2] 183 (lay Θ S) (Qi Q1) := by
  refine s_X11_rule (d := 128) h.1.1 (fun S1 hR f1 => hq _ S1 (fun hq2 => ?_))
  have f9 : ∀ k, 159 ≤ k → S1 k = S k := fun k hk => f1 k (by omega) (fun t ht => by omega)
  exact s_X12_rule (d := 128) (f9 160 (by omega)) (fun S2 h2 f2 => hq2 S2 (h.world hR f1 h2 f2 (ok_rule h.1.2.2.1 h.1.2.2.2.2.1)))
theorem j_deal {x1 : Int32} (h : JJ S) {Q1 : Int32 → HP → Prop} (hq : ∀ r S1, (∀ {Q2 : Int32 → HP → Prop}, (∀ S2, JJ S2 → Q2 r (lay Θ S2)) → C Θ 129 0 0 yX12_deal cX12_deal 6 (some .int) [.ref (tb Θ + 159), .int x1] 183 (lay Θ S1) (Qi Q2)) → Q1 r (lay Θ S1)) : C Θ 129 0 0 yX11_deal cX11_deal 8 (some .int) [.ref (tb Θ + 0), .int x1] 183 (lay Θ S) (Qi Q1) := by
  obtain ⟨m, hm9, hm, hmm, hpa⟩ := mn_iv h.1.2.2.1
  refine s_X11_deal (d := 127) h.1.1 hm hmm hm9 (fun S1 hR f1 => hq _ S1 (fun hq2 => ?_))
  have f9 : ∀ k, 159 ≤ k → S1 k = S k := fun k hk => f1 k (by omega) (fun t ht => by omega)
  exact s_X12_deal (d := 127) (f9 160 (by omega)) hm hmm hm9 (fun S2 h2 f2 => hq2 S2 (h.world hR f1 h2 f2 (ok_deal h.1.2.2.1 h.1.2.2.2.2.1)))
theorem j_seed {x1 : Int32} (h : JJ S) {Q1 : Int32 → HP → Prop} (hq : ∀ r S1, (∀ {Q2 : Int32 → HP → Prop}, (∀ S2, JJ S2 → Q2 r (lay Θ S2)) → C Θ 129 0 0 yX12_seed cX12_seed 2 (some .int) [.ref (tb Θ + 159), .int x1] 183 (lay Θ S1) (Qi Q2)) → Q1 r (lay Θ S1)) : C Θ 129 0 0 yX11_seed cX11_seed 3 (some .int) [.ref (tb Θ + 0), .int x1] 183 (lay Θ S) (Qi Q1) := by
  refine s_X11_seed (d := 129) h.1.1 (fun S1 hR f1 => hq _ S1 (fun hq2 => ?_))
  have f9 : ∀ k, 159 ≤ k → S1 k = S k := fun k hk => f1 k (by omega) (fun t ht => by omega)
  exact s_X12_seed (d := 128) (f9 160 (by omega)) (fun S2 h2 f2 => hq2 S2 (h.world hR f1 h2 f2 (ok_seed h.1.2.2.1 h.1.2.2.2.2.1)))
theorem j_argues {x1 x2 x3 x4 : Int32} (h : JJ S) {Q1 : Int32 → HP → Prop} (hq : ∀ r S1, (∀ {Q2 : Int32 → HP → Prop}, (∀ S2, JJ S2 → Q2 r (lay Θ S2)) → C Θ 129 0 0 yX12_argues cX12_argues 5 (some .int) [.ref (tb Θ + 159), .int x1, .int x2, .int x3, .int x4] 183 (lay Θ S1) (Qi Q2)) → Q1 r (lay Θ S1)) : C Θ 129 0 0 yX11_argues cX11_argues 8 (some .int) [.ref (tb Θ + 0), .int x1, .int x2, .int x3, .int x4] 183 (lay Θ S) (Qi Q1) := by
  obtain ⟨m, hm9, hm, hmm, hpa⟩ := mn_iv h.1.2.2.1
  refine s_X11_argues (d := 125) h.1.1 hm hmm hm9 (h.1.2.2.1.m hmm).1 h.1.2.1 (fun S1 hR f1 => hq _ S1 (fun hq2 => ?_))
  have f9 : ∀ k, 159 ≤ k → S1 k = S k := fun k hk => f1 k (by omega) (fun t ht => by omega)
  exact s_X12_argues (d := 126) (f9 160 (by omega)) hm hmm hm9 (h.1.2.2.1.m hmm).1 (fun S2 h2 f2 => hq2 S2 (h.world hR f1 h2 f2 (vOk.rf h.1.2.2.1 h.1.2.2.2.2.1)))
theorem j_minutes {x1 : Int32} (h : JJ S) {Q1 : Int32 → HP → Prop} (hq : ∀ r S1, (∀ {Q2 : Int32 → HP → Prop}, (∀ S2, JJ S2 → Q2 r (lay Θ S2)) → C Θ 129 0 0 yX12_minutes cX12_minutes 3 (some .int) [.ref (tb Θ + 159), .int x1] 183 (lay Θ S1) (Qi Q2)) → Q1 r (lay Θ S1)) : C Θ 129 0 0 yX11_minutes cX11_minutes 4 (some .int) [.ref (tb Θ + 0), .int x1] 183 (lay Θ S) (Qi Q1) := by
  obtain ⟨k0, c0, g2, g10, gc, gk⟩ := h.1.2.2.2.2.1
  refine s_X11_minutes (d := 123) h.1.1 h.1.2.2.1 h.1.2.1 gk g2 (fun S1 hR _ f1 => hq _ S1 (fun hq2 => ?_))
  have f9 : ∀ k, 159 ≤ k → S1 k = S k := fun k hk => f1 k (by omega) (fun t ht => by omega)
  exact s_X12_minutes (d := 123) (f9 160 (by omega)) h.1.2.2.1 gk g2 (fun S2 h2 f2 => hq2 S2 (h.world hR f1 h2 f2 (ok_minutes h.1.2.2.1 h.1.2.2.2.2.1)))
theorem j_pour {x1 : Int32} (h : JJ S) {Q1 : Int32 → HP → Prop} (hq : ∀ r S1, (∀ {Q2 : Int32 → HP → Prop}, (∀ S2, JJ S2 → Q2 r (lay Θ S2)) → C Θ 129 0 0 yX12_pour cX12_pour 6 (some .int) [.ref (tb Θ + 159), .int x1] 183 (lay Θ S1) (Qi Q2)) → Q1 r (lay Θ S1)) : C Θ 129 0 0 yX11_pour cX11_pour 7 (some .int) [.ref (tb Θ + 0), .int x1] 183 (lay Θ S) (Qi Q1) := by
  obtain ⟨m, hm9, hm, hmm, hpa⟩ := mn_iv h.1.2.2.1
  obtain ⟨X, hX, hY, oX⟩ := h.2.2.2.1
  refine s_X11_pour (d := 127) h.1.1 hm hmm hm9 hX oX (fun S1 hR f1 => hq _ S1 (fun hq2 => ?_))
  have f9 : ∀ k, 159 ≤ k → S1 k = S k := fun k hk => f1 k (by omega) (fun t ht => by omega)
  exact s_X12_pour (d := 127) (f9 160 (by omega)) hm hmm hm9 (hY.fr f9) oX (fun S2 h2 f2 => hq2 S2 (h.world hR f1 h2 f2 (ok_pour h.1.2.2.1 h.1.2.2.2.2.1)))
theorem j_sheet {x1 x2 x3 : Int32} (h : JJ S) {Q1 : Int32 → HP → Prop} (hq : ∀ r S1, (∀ {Q2 : Int32 → HP → Prop}, (∀ S2, JJ S2 → Q2 r (lay Θ S2)) → C Θ 129 0 0 yX12_sheet cX12_sheet 5 (some .int) [.ref (tb Θ + 159), .int x1, .int x2, .int x3] 183 (lay Θ S1) (Qi Q2)) → Q1 r (lay Θ S1)) : C Θ 129 0 0 yX11_sheet cX11_sheet 4 (some .int) [.ref (tb Θ + 0), .int x1, .int x2, .int x3] 183 (lay Θ S) (Qi Q1) := by
  obtain ⟨X, hX, hY, oX⟩ := h.2.2.2.1
  refine s_X11_sheet (d := 127) hX oX (fun S1 c1 f1 => hq _ S1 (fun hq2 => ?_))
  exact s_X12_sheet (d := 127) (hY.fr (fun k hk => f1 k (by omega))) oX (fun S2 c2 f2 => hq2 S2 (h.sheets (fun k a b c d e => (f2 k b c d).trans (f1 k a)) (c1.fr (fun k hk => f2 k (by omega) (by omega) (by omega))) c2 (osh_sheet oX)))
theorem j_mark {x1 x2 x3 : Int32} (h : JJ S) {Q1 : Int32 → HP → Prop} (hq : ∀ r S1, (∀ {Q2 : Int32 → HP → Prop}, (∀ S2, JJ S2 → Q2 r (lay Θ S2)) → C Θ 129 0 0 yX12_mark cX12_mark 4 (some .int) [.ref (tb Θ + 159), .int x1, .int x2, .int x3] 183 (lay Θ S1) (Qi Q2)) → Q1 r (lay Θ S1)) : C Θ 129 0 0 yX11_mark cX11_mark 5 (some .int) [.ref (tb Θ + 0), .int x1, .int x2, .int x3] 183 (lay Θ S) (Qi Q1) := by
  obtain ⟨X, hX, hY, oX⟩ := h.2.2.2.1
  refine s_X11_mark (d := 127) hX oX (fun S1 c1 f1 => hq _ S1 (fun hq2 => ?_))
  exact s_X12_mark (d := 127) (hY.fr (fun k hk => f1 k (by omega))) oX (fun S2 c2 f2 => hq2 S2 (h.sheets (fun k a b c d e => (f2 k b c d).trans (f1 k a)) (c1.fr (fun k hk => f2 k (by omega) (by omega) (by omega))) c2 (osh_mark oX)))
theorem j_copy {x1 x2 x3 x4 x5 : Int32} (h : JJ S) {Q1 : Int32 → HP → Prop} (hq : ∀ r S1, (∀ {Q2 : Int32 → HP → Prop}, (∀ S2, JJ S2 → Q2 r (lay Θ S2)) → C Θ 129 0 0 yX12_copy cX12_copy 7 (some .int) [.ref (tb Θ + 159), .int x1, .int x2, .int x3, .int x4, .int x5] 183 (lay Θ S1) (Qi Q2)) → Q1 r (lay Θ S1)) : C Θ 129 0 0 yX11_copy cX11_copy 8 (some .int) [.ref (tb Θ + 0), .int x1, .int x2, .int x3, .int x4, .int x5] 183 (lay Θ S) (Qi Q1) := by
  obtain ⟨X, hX, hY, oX⟩ := h.2.2.2.1
  refine s_X11_copy (d := 127) hX oX (fun S1 c1 f1 => hq _ S1 (fun hq2 => ?_))
  exact s_X12_copy (d := 127) (hY.fr (fun k hk => f1 k (by omega))) oX (fun S2 c2 f2 => hq2 S2 (h.sheets (fun k a b c d e => (f2 k b c d e).trans (f1 k a)) (c1.fr (fun k hk => f2 k (by omega) (by omega) (by omega) (by omega))) c2 (osh_copy oX)))
theorem j_lay {x1 x2 x3 : Int32} (h : JJ S) {Q1 : Int32 → HP → Prop} (hq : ∀ r S1, (∀ {Q2 : Int32 → HP → Prop}, (∀ S2, JJ S2 → Q2 r (lay Θ S2)) → C Θ 129 0 0 yX12_lay cX12_lay 6 (some .int) [.ref (tb Θ + 159), .int x1, .int x2, .int x3] 183 (lay Θ S1) (Qi Q2)) → Q1 r (lay Θ S1)) : C Θ 129 0 0 yX11_lay cX11_lay 5 (some .int) [.ref (tb Θ + 0), .int x1, .int x2, .int x3] 183 (lay Θ S) (Qi Q1) := by
  obtain ⟨m, hm9, hm, hmm, hpa⟩ := mn_iv h.1.2.2.1
  obtain ⟨X, hX, hY, oX⟩ := h.2.2.2.1
  obtain ⟨L, hL, hK, oL⟩ := h.2.2.2.2.1
  refine s_X11_lay (d := 127) h.1.1 hm hmm hm9 hpa hX oX hL (fun S1 c1 f1 => hq _ S1 (fun hq2 => ?_))
  have f9 : ∀ k, 159 ≤ k → S1 k = S k := fun k hk => f1 k (by omega) (by omega) (by omega)
  exact s_X12_lay (d := 127) (f9 160 (by omega)) hm hmm hm9 (hY.fr f9) oX (hK.fr f9) (fun S2 h2 c2 f2 => hq2 S2 (h.slots (fun k hk => (f2 k (by omega) (by omega) (by omega) (by omega)).trans (f1 k (by omega) (by omega) (by omega))) (c1.fr (fun k hk => f2 k (by omega) (by omega) (by omega) (by omega))) c2 (osl_lay oL oX)))
theorem j_feed {x1 x2 x3 : Int32} (h : JJ S) {Q1 : Int32 → HP → Prop} (hq : ∀ r S1, (∀ {Q2 : Int32 → HP → Prop}, (∀ S2, JJ S2 → Q2 r (lay Θ S2)) → C Θ 129 0 0 yX12_feed cX12_feed 6 (some .int) [.ref (tb Θ + 159), .int x1, .int x2, .int x3] 183 (lay Θ S1) (Qi Q2)) → Q1 r (lay Θ S1)) : C Θ 129 0 0 yX11_feed cX11_feed 4 (some .int) [.ref (tb Θ + 0), .int x1, .int x2, .int x3] 183 (lay Θ S) (Qi Q1) := by
  obtain ⟨n, hn, t1, t2, t3, t4⟩ := h.2.2.1
  refine s_X11_feed (d := 128) t1 hn (fun S1 a1 a2 a3 a4 a5 => hq _ S1 (fun hq2 => ?_))
  refine s_X12_feed (d := 129) (by rw [a5 159 (by omega) (by omega)]; exact t2) hn (fun S2 b1 b2 b3 b4 b5 => hq2 S2 (h.tape (fun k c1 c2 c3 c4 => (b5 k c3 c4).trans (a5 k c1 c2)) (fun j hj => by rw [b4 j hj, a5 159 (by omega) (by omega)]) ?_))
  have e4 : S2 4 = S1 4 := b5 4 (by omega) (by omega)
  by_cases c : n + 12 ≤ 96
  · rw [if_pos c] at a1 b1
    have hk : ∀ k, k < n + 12 → (S2 166 k = S1 4 k) ∧ ∃ q, q < 256 ∧ S1 4 k = nI q := by
      intro k hk
      by_cases e : k < n
      · rw [b3 k e, a5 166 (by omega) (by omega), a3 k e]
        exact ⟨t3 k e, t4 k e⟩
      · have h1 := a2 c (k - n) (by omega)
        have h2 := b2 c (k - n) (by omega)
        rw [show n + (k - n) = k by omega] at h1 h2
        rw [h1, h2]
        exact ⟨rfl, _, Nat.mod_lt _ (by decide), rfl⟩
    exact ⟨n + 12, c, by rw [b5 3 (by omega) (by omega)]; exact a1, b1, fun k q => by rw [e4]; exact (hk k q).1, fun k q => by rw [e4]; exact (hk k q).2⟩
  · rw [if_neg c] at a1 b1
    exact ⟨n, hn, by rw [b5 3 (by omega) (by omega)]; exact a1, b1, fun k q => by rw [e4, b3 k q, a5 166 (by omega) (by omega), a3 k q]; exact t3 k q, fun k q => by rw [e4, a3 k q]; exact t4 k q⟩
theorem j_trim {x1 : Int32} (h : JJ S) {Q1 : Int32 → HP → Prop} (hq : ∀ r S1, (∀ {Q2 : Int32 → HP → Prop}, (∀ S2, JJ S2 → Q2 r (lay Θ S2)) → C Θ 129 0 0 yX12_trim cX12_trim 2 (some .int) [.ref (tb Θ + 159), .int x1] 183 (lay Θ S1) (Qi Q2)) → Q1 r (lay Θ S1)) : C Θ 129 0 0 yX11_trim cX11_trim 2 (some .int) [.ref (tb Θ + 0), .int x1] 183 (lay Θ S) (Qi Q1) := by
  obtain ⟨n, hn, t1, t2, t3, t4⟩ := h.2.2.1
  refine s_X11_trim (d := 128) t1 hn (fun S1 a1 a2 a3 => hq _ S1 (fun hq2 => ?_))
  refine s_X12_trim (d := 128) (by rw [a3 159 (by omega)]; exact t2) hn (fun S2 b1 b2 b3 => hq2 S2 (h.tape (fun k c1 c2 c3 c4 => (b3 k c3).trans (a3 k c1)) (fun j hj => by rw [b2 j hj, a3 159 (by omega)]) ?_))
  have hle : (trimR n x1).2 ≤ n := by
    unfold trimR
    cases e : ix x1 (n + 1) with
    | none => exact Nat.le_refl _
    | some k => exact Nat.lt_succ_iff.mp (ix_lt (by omega) e).1
  exact ⟨_, Nat.le_trans hle hn, by rw [b3 3 (by omega)]; exact a1, b1, fun k q => by rw [b3 166 (by omega), b3 4 (by omega), a3 166 (by omega), a3 4 (by omega)]; exact t3 k (by omega), fun k q => by rw [b3 4 (by omega), a3 4 (by omega)]; exact t4 k (by omega)⟩
theorem j_tell {x1 : Int32} (h : JJ S) {Q1 : Int32 → HP → Prop} (hq : ∀ r S1, (∀ {Q2 : Int32 → HP → Prop}, (∀ S2, JJ S2 → Q2 r (lay Θ S2)) → C Θ 129 0 0 yX12_tell cX12_tell 2 (some .int) [.ref (tb Θ + 159), .int x1] 183 (lay Θ S1) (Qi Q2)) → Q1 r (lay Θ S1)) : C Θ 129 0 0 yX11_tell cX11_tell 2 (some .int) [.ref (tb Θ + 0), .int x1] 183 (lay Θ S) (Qi Q1) := by
  obtain ⟨n, hn, t1, t2, t3⟩ := h.2.2.2.2.2.1
  refine s_X11_tell (d := 129) t1 hn (fun S1 a1 a2 a3 a4 => hq _ S1 (fun hq2 => ?_))
  refine s_X12_tell (d := 129) (by rw [a4 159 (by omega) (by omega)]; exact t2) hn (fun S2 b1 b2 b3 b4 => hq2 S2 (h.tells (fun k c1 c2 c3 c4 c5 c6 c7 c8 c9 => (b4 k c5 c9).trans (a4 k c3 c4)) (fun j hj => by rw [b4 0 (by omega) (by omega)]; exact a3 j hj) (fun j hj => by rw [b3 j hj, a4 159 (by omega) (by omega)]) ?_))
  have e10 : S2 10 = S1 10 := b4 10 (by omega) (by omega)
  have e0 : S2 0 = S1 0 := b4 0 (by omega) (by omega)
  rw [a4 182 (by omega) (by omega)] at b1
  by_cases c : n = 60
  · rw [if_pos c] at a1 a2 b1 b2
    exact ⟨n, hn, by rw [e0]; exact a2, b2, fun q hq3 => by rw [e10, a1, b1]; exact t3 q hq3⟩
  · rw [if_neg c] at a1 a2 b1 b2
    refine ⟨n + 1, by omega, by rw [e0]; exact a2, b2, fun q hq3 => ?_⟩
    rw [e10, a1, b1]
    by_cases e : q = n
    · rw [e, pk_us, pk_us]
    · rw [pk_un e, pk_un e]
      exact t3 q (by omega)
theorem j_check {x1 : Int32} (h : JJ S) {Q1 : Int32 → HP → Prop} (hq : ∀ r S1, (∀ {Q2 : Int32 → HP → Prop}, (∀ S2, JJ S2 → Q2 r (lay Θ S2)) → C Θ 129 0 0 yX12_check cX12_check 6 (some .int) [.ref (tb Θ + 159), .int x1] 183 (lay Θ S1) (Qi Q2)) → Q1 r (lay Θ S1)) : C Θ 129 0 0 yX11_check cX11_check 5 (some .int) [.ref (tb Θ + 0), .int x1] 183 (lay Θ S) (Qi Q1) := by
  obtain ⟨n, hn, t1, t2, t3⟩ := h.2.2.2.2.2.1
  obtain ⟨i1, i2, i3⟩ := h.2.1
  refine s_X11_check (d := 123) (u := S 161) (t := S 10) (i3.imp id (fun e => ⟨e.1, e.2.1, e.2.2.2.1, e.2.2.1, ?_⟩)) t1 hn (fun q _ => rfl) (fun S1 f1 => hq _ S1 (fun hq2 => ?_))
  · obtain ⟨k, c, g2, g10, gc, gk⟩ := e.2.2.2.2.2.1
    exact ⟨k, gk, g2⟩
  have f9 : ∀ k, 159 ≤ k → S1 k = S k := fun k hk => f1.2 k (by omega) (by omega) (fun t ht => by omega)
  have e3 : S1 159 3 = S 0 4 := by rw [f9 159 (by omega)]; exact i2.symm
  refine s_X12_check (d := 124) (f9 160 (by omega)) h.1.2.2.2.2.2 (u := S 161) (t := S 10) ?_ (by rw [f9 159 (by omega)]; exact t2) hn (fun q hq3 => by rw [f9 182 (by omega)]; exact (t3 q hq3).symm) (fun S2 h2 f2 => ?_)
  · rw [e3]
    refine i3.imp id (fun e => ⟨e.1, f9 161 (by omega), i1, e.2.2.2.1, ?_⟩)
    obtain ⟨k, c, g2, g10, gc, gk⟩ := e.2.2.2.2.2.1
    exact ⟨k, gk, g2⟩
  · rw [e3]
    refine hq2 S2 (h.tells (fun k c1 c2 c3 c4 c5 c6 c7 c8 c9 => ?_) (fun j hj => ?_) (fun j hj => ?_) ⟨0, by omega, ?_, ?_, fun q hq3 => absurd hq3 (by omega)⟩)
    · by_cases e : k = 160
      · rw [e]
        exact h2
      · exact (f2.2 k c5 e c6 c7 c8).trans (f1.2 k c3 c1 c2)
    · rw [f2.2 0 (by omega) (by omega) (by omega) (by omega) (by omega), f1.1, pk_un hj]
    · rw [f2.1, pk_un hj, f9 159 (by omega)]
    · rw [f2.2 0 (by omega) (by omega) (by omega) (by omega) (by omega), f1.1, pk_us]
      rfl
    · rw [f2.1, pk_us]
      rfl
theorem j_keep (h : JJ S) {Q1 : Int32 → HP → Prop} (hq : ∀ r S1, (∀ {Q2 : Int32 → HP → Prop}, (∀ S2, JJ S2 → Q2 r (lay Θ S2)) → C Θ 129 0 0 yX12_keep cX12_keep 1 (some .int) [.ref (tb Θ + 159)] 183 (lay Θ S1) (Qi Q2)) → Q1 r (lay Θ S1)) : C Θ 129 0 0 yX11_keep cX11_keep 1 (some .int) [.ref (tb Θ + 0)] 183 (lay Θ S) (Qi Q1) := by
  obtain ⟨⟨w1, w2, w3, w4, w5, w6⟩, ⟨i1, i2, i3⟩, t, s, l, m, n, k⟩ := id h
  refine s_X11_keep (d := 126) w1 w3 (fun S1 a1 a2 a3 a4 => hq _ S1 (fun hq2 => ?_))
  have f9 : ∀ k, 159 ≤ k → S1 k = S k := fun k hk => a4 k (by omega) (by omega) (fun t ht => by omega)
  refine s_X12_keep (d := 128) (f9 160 (by omega)) w6 (by rw [f9 161 (by omega)]; exact i1) (fun S2 b1 b2 b3 b4 => hq2 S2 ?_)
  have f : ∀ k, 0 < k ∧ k < 42 ∨ 64 ≤ k ∧ k < 86 ∨ 131 ≤ k ∧ k < 159 ∨ k = 160 ∨ 161 < k → S2 k = S k := fun k hk => (b4 k (by omega) (by omega)).trans (a4 k (by omega) (by omega) (fun t ht => by omega))
  have ft : ∀ t, t < 15 → S2 (86 + 3 * t) = S (86 + 3 * t) ∧ S2 (86 + 3 * t + 1) = S (86 + 3 * t + 1) := fun t ht => ⟨(b4 _ (by omega) (by omega)).trans (a4 _ (by omega) (by omega) (fun t' _ => by omega)), (b4 _ (by omega) (by omega)).trans (a4 _ (by omega) (by omega) (fun t' _ => by omega))⟩
  have e0 : S2 0 = S1 0 := b4 0 (by omega) (by omega)
  refine ⟨h.1.fr (fun k a b => f k (by omega)) (fun t ht => ft t (by omega)) (f 160 (by omega)), ⟨by rw [b1]; exact w6, by rw [e0, a2, b2], Or.inr ⟨by rw [e0]; exact a2, ?_⟩⟩, t.fr (by rw [f 3 (by omega)]) (f 4 (by omega)) (by rw [b3 8 (by omega), f9 159 (by omega)]) (f 166 (by omega)), s.fr (fun k a b => f k (by omega)) (f 174 (by omega)) (f 175 (by omega)) (f 176 (by omega)), l.fr (f 6 (by omega)) (f 9 (by omega)) (fun k a b => f k (by omega)) (fun k a b => f k (by omega)), m.fr (by rw [e0, a3 13 (by omega)]) (by rw [b3 34 (by omega), f9 159 (by omega)]) (f 10 (by omega)) (f 182 (by omega)), n.fr (fun t ht => by rw [(ft t ht).1]), k.fr (f 167 (by omega)) (f 168 (by omega))⟩
  rw [b1, f 160 (by omega)]
  exact ⟨a1.sm (mN_le w3) (fun k a b => b4 k (by omega) (by omega)), w2.sm (tN_le w3) (fun t ht => ft t (by omega)), w3, w4, w5, Nat.le_refl _⟩
theorem j_back (h : JJ S) {Q1 : Int32 → HP → Prop} (hq : ∀ r S1, (∀ {Q2 : Int32 → HP → Prop}, (∀ S2, JJ S2 → Q2 r (lay Θ S2)) → C Θ 129 0 0 yX12_back cX12_back 1 (some .int) [.ref (tb Θ + 159)] 183 (lay Θ S1) (Qi Q2)) → Q1 r (lay Θ S1)) : C Θ 129 0 0 yX11_back cX11_back 1 (some .int) [.ref (tb Θ + 0)] 183 (lay Θ S) (Qi Q1) := by
  obtain ⟨⟨w1, w2, w3, w4, w5, w6⟩, ⟨i1, i2, i3⟩, t, s, l, m, n, k⟩ := id h
  rcases i3 with e | ⟨e, j1, j2, j3, j4, j5, j6⟩
  · exact s_X11_back0 (d := 126) e (hq _ S (fun hq2 => s_X12_back0 (d := 128) (i2.symm.trans e) (hq2 S h)))
  · refine s_X11_back1 (d := 126) j1 j3 e (fun S1 a1 f1 => hq _ S1 (fun hq2 => ?_))
    have f9 : ∀ k, 159 ≤ k → S1 k = S k := fun k hk => f1 k (by omega) (fun t ht => by omega)
    refine s_X12_back1 (d := 128) (f9 161 (by omega)) (by rw [f9 159 (by omega)]; exact i2.symm.trans e) (by rw [f9 160 (by omega)]; exact w6) i1 (fun S2 b1 b2 => hq2 S2 ?_)
    have f : ∀ k, k < 20 ∨ 42 ≤ k ∧ k < 86 ∨ 131 ≤ k ∧ k < 160 ∨ 160 < k → S2 k = S k := fun k hk => (b2 k (by omega)).trans (f1 k (by omega) (fun t ht => by omega))
    have ft : ∀ t, t < 15 → S2 (86 + 3 * t) = S (86 + 3 * t) ∧ S2 (86 + 3 * t + 1) = S (86 + 3 * t + 1) := fun t ht => ⟨(b2 _ (by omega)).trans (f1 _ (by omega) (fun t' _ => by omega)), (b2 _ (by omega)).trans (f1 _ (by omega) (fun t' _ => by omega))⟩
    have tr : TRep S2 (S 161) := j2.sm (tN_le j3) (fun t ht => ft t (by omega))
    refine ⟨?_, ⟨by rw [f 161 (by omega)]; exact i1, by rw [f 0 (by omega), f 159 (by omega)]; exact i2, Or.inr ⟨by rw [f 0 (by omega)]; exact e, ?_⟩⟩, t.fr (by rw [f 3 (by omega)]) (f 4 (by omega)) (by rw [f 159 (by omega)]) (f 166 (by omega)), s.fr (fun k a b => f k (by omega)) (f 174 (by omega)) (f 175 (by omega)) (f 176 (by omega)), l.fr (f 6 (by omega)) (f 9 (by omega)) (fun k a b => f k (by omega)) (fun k a b => f k (by omega)), m.fr (by rw [f 0 (by omega)]) (by rw [f 159 (by omega)]) (f 10 (by omega)) (f 182 (by omega)), n.fr (fun t ht => by rw [(ft t ht).1]), k.fr (f 167 (by omega)) (f 168 (by omega))⟩
    · unfold JW
      rw [b1]
      exact ⟨a1.sm (mN_le j3) (fun k a b => b2 k (by omega)), tr, j3, j4, j5, i1⟩
    · rw [b1, f 161 (by omega)]
      exact ⟨j1.sm (mN_le j3) (fun k a b => f k (by omega)), tr, j3, j4, j5, Nat.le_refl _⟩
end Jc
