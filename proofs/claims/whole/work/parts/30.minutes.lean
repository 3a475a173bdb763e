/-! the class: minutes, sums over those on board -/
theorem to_un {c : WV} {p o k : Nat} {b : Int32} (h5 : k ≠ 5) (h6 : k ≠ 6) (h1 : k ≠ 16 + 9 * p) (h2 : k ≠ 16 + 9 * o) : toV c p o b k = c k := by
  rw [toV, pk_un h6, pk_un h5, pk_un h2, pk_un h1]
theorem wa_un {v : WV} {k : Nat} (hm : mN v ≤ 9) (hk : k = 1 ∨ k = 2 ∨ k = 14 ∨ 96 ≤ k) : waV v k = v k := by
  unfold waV
  rcases e1 : nxA v (v 5) 0 with _ | p
  · simp only
    rw [idV, pk_un (by omega), pk_un (by omega)]
  · have hp : p < mN v := (nxA_lt e1).2.1
    simp only
    rcases e2 : nxA v (v 5) (p + 1) with _ | o
    · simp only
      rw [idV, pk_un (by omega), pk_un (by omega)]
    · have ho : o < mN v := (nxA_lt e2).2.1
      simp only
      rw [pk_un (by omega), drawV, pk_un (by omega), goV, pk_un (by omega), pk_un (by omega), pk_un (by omega), pk_un (by omega), pk_un (by omega)]
theorem qu_un {v : WV} {p o j k : Nat} (hp : p < 9) (ho : o < 9) (hj : j < 6) (hk : k = 1 ∨ k = 2 ∨ k = 14 ∨ 96 ≤ k) : quV v p o j k = v k := by
  have h3 : q3V v p o j k = v k := q3_un (by omega) (by omega) (by omega)
  have h4 : ∀ u : WV, q4V u p o j k = u k := fun u => by rw [q4V, pk_un (by omega), pk_un (by omega)]
  rw [quV, ← h3]
  generalize q3V v p o j = u
  rw [quE]
  split
  · rw [to_un (by omega) (by omega) (by omega) (by omega), pk_un (by omega), pk_un (by omega), pk_un (by omega)]
  · split
    · rw [to_un (by omega) (by omega) (by omega) (by omega), pk_un (by omega)]
    · split
      · rw [to_un (by omega) (by omega) (by omega) (by omega), pk_un (by omega)]
      · split
        · rw [pk_un (by omega), drawV, pk_un (by omega), h4]
        · rw [h4]
theorem mi_un {v : WV} {k : Nat} (h : IV v) (hk : k = 1 ∨ k = 14 ∨ 96 ≤ k) : miV v k = v k := by
  obtain ⟨m, hc, w, hw, ew, hw2⟩ := IV_iff.mp h
  have hm9 := hc.1.1
  have hmm : mN v = m := by rw [mN, hc.1.2.1, nI_clamp (by omega)]
  simp only [miV]
  rw [pk_un (by omega)]
  by_cases c : v 6 = 0
  · rw [if_pos c]
    exact wa_un (by omega) (Or.imp_right Or.inr hk)
  · rw [if_neg c]
    obtain ⟨p, o, j, a1, a2, a3, a4, a5, a6⟩ := hw2 (way_pos ew c)
    rw [a4, a5, a6, nI_clamp (by omega), nI_clamp (by omega), nI_clamp (by omega)]
    exact qu_un (by omega) (by omega) a3 (Or.imp_right Or.inr hk)
theorem mi_2 {v : WV} (h : IV v) : miV v 2 = v 2 + 1 := by
  obtain ⟨m, hc, w, hw, ew, hw2⟩ := IV_iff.mp h
  have hm9 := hc.1.1
  have hmm : mN v = m := by rw [mN, hc.1.2.1, nI_clamp (by omega)]
  simp only [miV]
  rw [pk_us]
  by_cases c : v 6 = 0
  · rw [if_pos c, wa_un (by omega) (Or.inr (Or.inl rfl))]
  · rw [if_neg c]
    obtain ⟨p, o, j, a1, a2, a3, a4, a5, a6⟩ := hw2 (way_pos ew c)
    rw [a4, a5, a6, nI_clamp (by omega), nI_clamp (by omega), nI_clamp (by omega), qu_un (by omega) (by omega) a3 (Or.inr (Or.inl rfl))]
theorem mi_hi {v : WV} (h : IV v) : eqHi v (miV v) := fun k hk => mi_un h (Or.inr (Or.inr hk))
theorem tN_le {v : WV} (iv : IV v) : tN v ≤ 14 := by
  obtain ⟨t, h1, h2, -⟩ := iv.2.2.2.2.2
  rw [tN, h2, nI_clamp (by omega)]
  exact h1
section Mi
variable {Θ : Th} {d : Nat} {S : SS} {v : WV}
theorem s_X10_passMinute {Q : HP → Prop} {w : Nat} (hw : isW w) (hR : WRep S w v) (iv : IV v) (hT : TRep S v) (hq : ∀ S', WRep S' w (miV v) → WF w S S' → Q (lay Θ S')) : C Θ (d + 5) 0 0 yX10_passMinute cX10_passMinute 1 none [.ref (tb Θ + w)] 183 (lay Θ S) (Qv Q) := by
  refine C_of rfl rfl (Nat.le_of_ble_eq_true rfl) ?_
  obtain ⟨m, hc, g, hg, eg, hg2⟩ := IV_iff.mp iv
  have hm9 := hc.1.1
  have hmm : mN v = m := by rw [mN, hc.1.2.1, nI_clamp (by omega)]
  obtain ⟨tn, htn14, htn, hok⟩ := hc.2.2.2.2
  refine E_aload_n dX10_passMinute_0 rfl ?_
  refine W_get (j := 3) (i := 6) hR hw (by decide) fX10_50 dX10_passMinute_1 ?_
  refine E_if_le dX10_passMinute_4 (fun c4 => ?_) (fun c4 => ?_)
  · refine E_aload_n dX10_passMinute_14 rfl ?_
    refine E_V0v vX10_110_10 dX10_passMinute_15 (Nat.le_of_ble_eq_true rfl) (by have := (hw).lt; omega) ((sh_W hw) _) (s_X10_setOff hw hR hmm hm9 hc.1.2.1 (fun S15 h15 f15 => ?_))
    refine E_aload_n dX10_passMinute_18 rfl ?_
    refine E_dup dX10_passMinute_19 rfl ?_
    refine W_get (j := 10) (i := 2) h15 hw (by decide) fX10_68 dX10_passMinute_20 ?_
    refine E_ic (v := 1) dX10_passMinute_23 (by decide) ?_
    refine E_iadd dX10_passMinute_24 ?_
    refine W_put (j := 10) (i := 2) h15 hw (by decide) fX10_68 dX10_passMinute_25 (fun S25 h25 f25 => ?_)
    refine E_vret dX10_passMinute_28 rfl rfl ?_
    have g0 : v 6 = 0 := by
      rw [eg] at c4 ⊢
      rw [show g = 0 from Nat.le_zero.mp ((nI_leI (by omega) (by omega)).mp c4)]
      rfl
    exact hq _ (WRep_eq h25 (by simp only [miV]; rw [if_pos g0])) ((f15).tr f25)
  · refine E_aload_n dX10_passMinute_7 rfl ?_
    have g0 : ¬ v 6 = 0 := fun e => c4 (by rw [e]; decide)
    obtain ⟨p, o, j, hpo, hom, hj6, h7, h8, h9⟩ := hg2 (way_pos eg g0)
    refine E_V0v vX10_107_10 dX10_passMinute_8 (Nat.le_of_ble_eq_true rfl) (by have := (hw).lt; omega) ((sh_W hw) _) (s_X10_argueOn hw hR hmm hm9 hT htn htn14 hok p o j (by omega) (by omega) hom hj6 hc h7 h8 h9 (fun S8 h8a f8 => ?_))
    refine E_goto dX10_passMinute_11 ?_
    refine E_aload_n dX10_passMinute_18 rfl ?_
    refine E_dup dX10_passMinute_19 rfl ?_
    refine W_get (j := 10) (i := 2) h8a hw (by decide) fX10_68 dX10_passMinute_20 ?_
    refine E_ic (v := 1) dX10_passMinute_23 (by decide) ?_
    refine E_iadd dX10_passMinute_24 ?_
    refine W_put (j := 10) (i := 2) h8a hw (by decide) fX10_68 dX10_passMinute_25 (fun S25 h25 f25 => ?_)
    refine E_vret dX10_passMinute_28 rfl rfl ?_
    exact hq _ (WRep_eq h25 (by simp only [miV]; rw [if_neg g0, h7, h8, h9, nI_clamp (by omega), nI_clamp (by omega), nI_clamp (by omega)])) ((f8).tr f25)
theorem l_X10_passMinutes {Q : HP → Prop} {w : Nat} (hw : isW w) {n : Nat} (hn : n ≤ 1000) : ∀ (f : Nat) (v : WV) (S : SS) (x2 : Int32) (i : Nat), x2 = nI i → i + f = n → WRep S w v → IV v → TRep S v → (∀ S', WRep S' w (miN v f) → TRep S' (miN v f) → WF w S S' → Q (lay Θ S')) → E Θ (d + 6) 0 0 yX10_passMinutes cX10_passMinutes 3 none 0 0 183 (lay Θ S) 2 [(2, .int x2), (1, .int (nI n)), (0, .ref (tb Θ + w))] [] (Qv Q) := by
  intro f
  induction f with
  | zero =>
    intro v S x2 i hx2 hi hR iv hT hq
    refine E_iload_n dX10_passMinutes_2 rfl ?_
    refine E_iload_n dX10_passMinutes_3 rfl ?_
    refine E_icmp_ge dX10_passMinutes_4 (fun _ => ?_) (fun c => absurd (by rw [hx2]; exact nI_le (by omega) (by omega)) c)
    refine E_vret dX10_passMinutes_17 rfl rfl ?_
    exact hq S hR hT WF.rf
  | succ f ih =>
    intro v S x2 i hx2 hi hR iv hT hq
    refine E_iload_n dX10_passMinutes_2 rfl ?_
    refine E_iload_n dX10_passMinutes_3 rfl ?_
    refine E_icmp_ge dX10_passMinutes_4 (fun c => absurd c (fun c => absurd ((nI_leI (by omega) (by omega)).mp (hx2 ▸ c)) (by omega))) (fun _ => ?_)
    refine E_aload_n dX10_passMinutes_7 rfl ?_
    refine E_V0v vX10_104_10 dX10_passMinutes_8 (Nat.le_of_ble_eq_true rfl) (by have := (hw).lt; omega) ((sh_W hw) _) (s_X10_passMinute hw hR iv hT (fun S8 h8 f8 => ?_))
    refine E_iinc (v := 1) dX10_passMinutes_11 rfl (by decide) (by decide) ?_
    refine E_goto dX10_passMinutes_14 ?_
    exact E.loc (by exact ⟨rfl, rfl, rfl, trivial⟩) (ih (miV v) _ _ (i + 1) (by rw [hx2, nI_1]) (by omega) h8 (IV_mi iv) (hT.keep hw f8 (mi_hi iv) (mi_un iv (Or.inr (Or.inl rfl))) (tN_le iv)) (fun S9 a9 t9 b9 => hq S9 (by rw [miN_add]; exact a9) (by rw [miN_add]; exact t9) (f8.tr b9)))
theorem s_X10_passMinutes {Q : HP → Prop} {w : Nat} (hw : isW w) (hR : WRep S w v) (iv : IV v) (hT : TRep S v) {x : Int32} {n : Nat} (hn : n ≤ 1000) (hx : x = nI n) (hq : ∀ S', WRep S' w (miN v n) → TRep S' (miN v n) → WF w S S' → Q (lay Θ S')) : C Θ (d + 6) 0 0 yX10_passMinutes cX10_passMinutes 3 none [.ref (tb Θ + w), .int x] 183 (lay Θ S) (Qv Q) := by
  refine C_of rfl rfl (Nat.le_of_ble_eq_true rfl) ?_
  refine E_ic (v := 0) dX10_passMinutes_0 (by decide) ?_
  refine E_istore_n dX10_passMinutes_1 (by decide) ?_
  subst hx
  exact E.loc (by exact ⟨rfl, rfl, rfl, trivial⟩) (l_X10_passMinutes hw hn n v S 0 0 rfl (by omega) hR iv hT hq)
theorem l_X10_heatOfAll {Q : Int32 → HP → Prop} {w : Nat} (hw : isW w) (hR : WRep S w v) {m : Nat} (hmm : mN v = m) (hm9 : m ≤ 9) (hm : v 1 = nI m) (hq : Q (teF v m) (lay Θ S)) : ∀ (f : Nat) (x1 x2 : Int32) (i : Nat), x1 = teF v i → x2 = nI i → i + f = m → E Θ d 0 0 yX10_heatOfAll cX10_heatOfAll 3 (some .int) 0 0 183 (lay Θ S) 4 [(2, .int x2), (1, .int x1), (0, .ref (tb Θ + w))] [] (Qi Q) := by
  intro f
  induction f with
  | zero =>
    intro x1 x2 i hx1 hx2 hi
    refine E_iload_n dX10_heatOfAll_4 rfl ?_
    refine E_aload_n dX10_heatOfAll_5 rfl ?_
    refine W_get (j := 1) (i := 1) hR hw (by decide) fX10_40 dX10_heatOfAll_6 ?_
    refine E_icmp_ge dX10_heatOfAll_9 (fun _ => ?_) (fun c => absurd (by rw [hx2, hm]; exact nI_le (by omega) (by omega)) c)
    refine E_iload_n dX10_heatOfAll_30 rfl ?_
    refine E_iret dX10_heatOfAll_31 rfl rfl ?_
    have e : i = m := by omega
    rw [hx1, e]
    exact hq
  | succ f ih =>
    intro x1 x2 i hx1 hx2 hi
    refine E_iload_n dX10_heatOfAll_4 rfl ?_
    refine E_aload_n dX10_heatOfAll_5 rfl ?_
    refine W_get (j := 1) (i := 1) hR hw (by decide) fX10_40 dX10_heatOfAll_6 ?_
    refine E_icmp_ge dX10_heatOfAll_9 (fun c => absurd c (fun c => absurd ((nI_leI (by omega) (by omega)).mp (hm ▸ hx2 ▸ c)) (by omega))) (fun _ => ?_)
    refine E_iload_n dX10_heatOfAll_12 rfl ?_
    refine E_aload_n dX10_heatOfAll_13 rfl ?_
    refine L_get fX10_11 dX10_heatOfAll_14 (by have := (hw).lt; omega) (sh_W hw) rfl ?_
    refine E_iload_n dX10_heatOfAll_17 rfl ?_
    refine L_aald (j := i) dX10_heatOfAll_18 (by have := (hw).lt; omega) (sh_Wc hw) rfl hx2 (by omega) (by decide) (if_pos (by omega)) ?_
    refine P_temp (p := i) hR hw hmm hm9 (by omega) fX10_83 dX10_heatOfAll_19 ?_
    refine E_iadd dX10_heatOfAll_22 ?_
    refine E_istore_n dX10_heatOfAll_23 (by decide) ?_
    refine E_iinc (v := 1) dX10_heatOfAll_24 rfl (by decide) (by decide) ?_
    refine E_goto dX10_heatOfAll_27 ?_
    exact E.loc (by exact ⟨rfl, rfl, rfl, trivial⟩) (ih _ _ (i + 1) (by rw [hx1, teF]) (by rw [hx2, nI_1]) (by omega))
theorem s_X10_heatOfAll {Q : Int32 → HP → Prop} {w : Nat} (hw : isW w) (hR : WRep S w v) {m : Nat} (hmm : mN v = m) (hm9 : m ≤ 9) (hm : v 1 = nI m) (hq : Q (teF v (mN v)) (lay Θ S)) : C Θ d 0 0 yX10_heatOfAll cX10_heatOfAll 3 (some .int) [.ref (tb Θ + w)] 183 (lay Θ S) (Qi Q) := by
  refine C_of rfl rfl (Nat.le_of_ble_eq_true rfl) ?_
  refine E_ic (v := 0) dX10_heatOfAll_0 (by decide) ?_
  refine E_istore_n dX10_heatOfAll_1 (by decide) ?_
  refine E_ic (v := 0) dX10_heatOfAll_2 (by decide) ?_
  refine E_istore_n dX10_heatOfAll_3 (by decide) ?_
  exact E.loc (by exact ⟨rfl, rfl, rfl, trivial⟩) (l_X10_heatOfAll hw hR hmm hm9 hm (by rw [hmm] at hq; exact hq) m 0 0 0 rfl rfl (by omega))
theorem l_X10_thoseOver {Q : Int32 → HP → Prop} {w : Nat} (hw : isW w) (hR : WRep S w v) {m : Nat} (hmm : mN v = m) (hm9 : m ≤ 9) (hm : v 1 = nI m) (hq : Q (acF v m) (lay Θ S)) : ∀ (f : Nat) (x1 x2 : Int32) (i : Nat), x1 = acF v i → x2 = nI i → i + f = m → E Θ d 0 0 yX10_thoseOver cX10_thoseOver 3 (some .int) 0 0 183 (lay Θ S) 4 [(2, .int x2), (1, .int x1), (0, .ref (tb Θ + w))] [] (Qi Q) := by
  intro f
  induction f with
  | zero =>
    intro x1 x2 i hx1 hx2 hi
    refine E_iload_n dX10_thoseOver_4 rfl ?_
    refine E_aload_n dX10_thoseOver_5 rfl ?_
    refine W_get (j := 1) (i := 1) hR hw (by decide) fX10_40 dX10_thoseOver_6 ?_
    refine E_icmp_ge dX10_thoseOver_9 (fun _ => ?_) (fun c => absurd (by rw [hx2, hm]; exact nI_le (by omega) (by omega)) c)
    refine E_iload_n dX10_thoseOver_37 rfl ?_
    refine E_iret dX10_thoseOver_38 rfl rfl ?_
    have e : i = m := by omega
    rw [hx1, e]
    exact hq
  | succ f ih =>
    intro x1 x2 i hx1 hx2 hi
    refine E_iload_n dX10_thoseOver_4 rfl ?_
    refine E_aload_n dX10_thoseOver_5 rfl ?_
    refine W_get (j := 1) (i := 1) hR hw (by decide) fX10_40 dX10_thoseOver_6 ?_
    refine E_icmp_ge dX10_thoseOver_9 (fun c => absurd c (fun c => absurd ((nI_leI (by omega) (by omega)).mp (hm ▸ hx2 ▸ c)) (by omega))) (fun _ => ?_)
    refine E_aload_n dX10_thoseOver_12 rfl ?_
    refine L_get fX10_11 dX10_thoseOver_13 (by have := (hw).lt; omega) (sh_W hw) rfl ?_
    refine E_iload_n dX10_thoseOver_16 rfl ?_
    refine L_aald (j := i) dX10_thoseOver_17 (by have := (hw).lt; omega) (sh_Wc hw) rfl hx2 (by omega) (by decide) (if_pos (by omega)) ?_
    refine P_bank (p := i) hR hw hmm hm9 (by omega) fX10_113 dX10_thoseOver_18 ?_
    refine E_ic (v := 1) dX10_thoseOver_21 (by decide) ?_
    refine E_icmp_ne dX10_thoseOver_22 (fun c22 => ?_) (fun c22 => ?_)
    · refine E_iinc (v := 1) dX10_thoseOver_31 rfl (by decide) (by decide) ?_
      refine E_goto dX10_thoseOver_34 ?_
      exact E.loc (by exact ⟨rfl, rfl, rfl, trivial⟩) (ih _ _ (i + 1) (by rw [hx1, acF]; simp [c22, hx2]) (by rw [hx2, nI_1]) (by omega))
    · refine E_iload_n dX10_thoseOver_25 rfl ?_
      refine E_ic (v := 1) dX10_thoseOver_26 (by decide) ?_
      refine E_iload_n dX10_thoseOver_27 rfl ?_
      refine E_ishl dX10_thoseOver_28 ?_
      refine E_ior dX10_thoseOver_29 ?_
      refine E_istore_n dX10_thoseOver_30 (by decide) ?_
      refine E_iinc (v := 1) dX10_thoseOver_31 rfl (by decide) (by decide) ?_
      refine E_goto dX10_thoseOver_34 ?_
      exact E.loc (by exact ⟨rfl, rfl, rfl, trivial⟩) (ih _ _ (i + 1) (by rw [hx1, acF]; simp [c22, hx2]) (by rw [hx2, nI_1]) (by omega))
theorem s_X10_thoseOver {Q : Int32 → HP → Prop} {w : Nat} (hw : isW w) (hR : WRep S w v) {m : Nat} (hmm : mN v = m) (hm9 : m ≤ 9) (hm : v 1 = nI m) (hq : Q (acF v (mN v)) (lay Θ S)) : C Θ d 0 0 yX10_thoseOver cX10_thoseOver 3 (some .int) [.ref (tb Θ + w)] 183 (lay Θ S) (Qi Q) := by
  refine C_of rfl rfl (Nat.le_of_ble_eq_true rfl) ?_
  refine E_ic (v := 0) dX10_thoseOver_0 (by decide) ?_
  refine E_istore_n dX10_thoseOver_1 (by decide) ?_
  refine E_ic (v := 0) dX10_thoseOver_2 (by decide) ?_
  refine E_istore_n dX10_thoseOver_3 (by decide) ?_
  exact E.loc (by exact ⟨rfl, rfl, rfl, trivial⟩) (l_X10_thoseOver hw hR hmm hm9 hm (by rw [hmm] at hq; exact hq) m 0 0 0 rfl rfl (by omega))
def stF (v : WV) (x : Int32) : Int32 := if 0 ≤ x ∧ x ≤ 3 then v (10 + x.toNatClampNeg) else acF v (mN v)
theorem s_X10_standing {Q : Int32 → HP → Prop} {w : Nat} (hw : isW w) (hR : WRep S w v) {m : Nat} (hmm : mN v = m) (hm9 : m ≤ 9) (hm : v 1 = nI m) {x : Int32} (hq : Q (stF v x) (lay Θ S)) : C Θ (d + 1) 0 0 yX10_standing cX10_standing 2 (some .int) [.ref (tb Θ + w), .int x] 183 (lay Θ S) (Qi Q) := by
  refine C_of rfl rfl (Nat.le_of_ble_eq_true rfl) ?_
  unfold stF at hq
  refine E_iload_n dX10_standing_0 rfl ?_
  refine E_ic (v := 0) dX10_standing_1 (by decide) ?_
  refine E_ic (v := 3) dX10_standing_2 (by decide) ?_
  refine E_S3i sX10_75 dX10_standing_3 (Nat.le_of_ble_eq_true rfl) (s_X11_within (fun g0 g3 => ?_) (fun gn => ?_))
  · rw [if_pos ⟨g0, g3⟩] at hq
    obtain ⟨j, hj, ej⟩ := nI_of (i_lt g0)
    have hj4 : j < 4 := by rw [ej] at g3; have := (nI_leI (b := 3) hj (by omega)).mp g3; omega
    refine E_if_eq dX10_standing_6 (fun c => absurd c (by decide)) (fun _ => ?_)
    refine E_aload_n dX10_standing_9 rfl ?_
    refine L_get fX10_24 dX10_standing_10 (by have := (hw).lt; omega) (sh_W hw) rfl ?_
    refine E_iload_n dX10_standing_13 rfl ?_
    refine T_get (j := j) hR hw dX10_standing_14 ej hj4 ?_
    refine E_goto dX10_standing_15 ?_
    refine E_iret dX10_standing_22 rfl rfl ?_
    rw [ej, nI_clamp hj] at hq
    exact hq
  · rw [if_neg gn] at hq
    refine E_if_eq dX10_standing_6 (fun _ => ?_) (fun c => absurd (by decide) c)
    refine E_aload_n dX10_standing_18 rfl ?_
    refine E_V0i vX10_79_10 dX10_standing_19 (Nat.le_of_ble_eq_true rfl) (by have := (hw).lt; omega) ((sh_W hw) _) (s_X10_thoseOver hw hR hmm hm9 hm ?_)
    refine E_iret dX10_standing_22 rfl rfl ?_
    exact hq
end Mi
