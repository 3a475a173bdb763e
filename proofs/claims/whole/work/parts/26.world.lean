/-! the class: a world's small methods -/
theorem abs_ap {a b : Int32} : (if 0 ≤ a - b then a - b else 0 - (a - b)) = apF a b := by
  unfold apF
  by_cases h : a - b < 0
  · rw [if_pos h, if_neg (i_le h), Int32.zero_sub]
  · rw [if_neg h, if_pos (i_nlt h)]
theorem ap_fin : ∀ a b : Fin 7, ∃ q : Fin 7, apF (nI a.val - 3) (nI b.val - 3) = nI q.val := by decide +kernel
theorem ap_ix {v : WV} {p o j : Nat} (hp : paOk v p) (ho : paOk v o) (hj : j < 6) : ∃ a, a < 7 ∧ apV v p o j = nI a := by
  obtain ⟨a, ha, ea⟩ := hp.2.2.2 j hj
  obtain ⟨b, hb, eb⟩ := ho.2.2.2 j hj
  obtain ⟨q, hq⟩ := ap_fin ⟨a, ha⟩ ⟨b, hb⟩
  exact ⟨q.val, q.isLt, by rw [apV, ea, eb]; exact hq⟩
def goCl (v : WV) (p o : Nat) (z : Int32) : WV := upd (upd (upd (upd (upd (upd v 7 (nI p)) 8 (nI o)) 9 z) 6 1) (15 + 9 * p + 1) 2) (15 + 9 * o + 1) 2
def shCl (v : WV) (p o : Nat) : WV := upd (upd (upd v (15 + 9 * p + 1) (v 5)) (15 + 9 * o + 1) (v 5)) 6 0

theorem WRep_eq {S : SS} {w : Nat} {v u : WV} (h : WRep S w v) (e : v = u) : WRep S w u := e ▸ h
section Wd
variable {Θ : Th} {d : Nat} {S : SS} {v : WV}
theorem s_X10_draw {Q : Int32 → HP → Prop} {w : Nat} (hw : isW w) (hR : WRep S w v) {m : Nat} (hmm : mN v = m) (hm9 : m ≤ 9) (hq : ∀ S', WRep S' w (drawV v) → WF w S S' → Q (drawR v) (lay Θ S')) : C Θ d 0 0 yX10_draw cX10_draw 1 (some .int) [.ref (tb Θ + w)] 183 (lay Θ S) (Qi Q) := by
  refine C_of rfl rfl (Nat.le_of_ble_eq_true rfl) ?_
  refine E_aload_n dX10_draw_0 rfl ?_
  refine E_aload_n dX10_draw_1 rfl ?_
  refine W_get (j := 11) (i := 0) hR hw (by decide) fX10_28 dX10_draw_2 ?_
  refine E_ldc dX10_draw_5 kX10_74 ?_
  refine E_imul dX10_draw_7 ?_
  refine E_sipush (v := 12345) dX10_draw_8 (by decide) ?_
  refine E_iadd dX10_draw_11 ?_
  refine W_put (j := 11) (i := 0) hR hw (by decide) fX10_28 dX10_draw_12 (fun S12 h12 f12 => ?_)
  refine E_aload_n dX10_draw_15 rfl ?_
  refine W_get (j := 11) (i := 0) h12 hw (by decide) fX10_28 dX10_draw_16 ?_
  refine E_bipush (v := 8) dX10_draw_19 (by decide) ?_
  refine E_iushr dX10_draw_21 ?_
  refine E_iret dX10_draw_22 rfl rfl ?_
  refine q_eq (hq _ h12 ((WF.rf).tr f12)) ?_
  rw [pk_us]
  rfl
def oM (m : Nat) (r : Option Nat) : Int32 := match r with
  | some p => nI p
  | none => nI m
theorem l_X10_nextAshore {Q : Int32 → HP → Prop} {w : Nat} (hw : isW w) (hR : WRep S w v) {m : Nat} (hmm : mN v = m) (hm9 : m ≤ 9) (hm : v 1 = nI m) {a : Int32} : ∀ (f i : Nat), i + f = m → Q (oM m (nxF v (v 5) m f)) (lay Θ S) → E Θ d 0 0 yX10_nextAshore cX10_nextAshore 3 (some .int) 0 0 183 (lay Θ S) 2 [(2, .int (nI i)), (1, .int a), (0, .ref (tb Θ + w))] [] (Qi Q) := by
  intro f
  induction f with
  | zero =>
    intro i hi0 hq
    refine E_iload_n dX10_nextAshore_2 rfl ?_
    refine E_aload_n dX10_nextAshore_3 rfl ?_
    refine W_get (j := 1) (i := 1) hR hw (by decide) fX10_40 dX10_nextAshore_4 ?_
    refine E_icmp_ge dX10_nextAshore_7 (fun _ => ?_) (fun c => absurd (by rw [hm]; exact nI_le (by omega) (by omega)) c)
    refine E_aload_n dX10_nextAshore_34 rfl ?_
    refine W_get (j := 1) (i := 1) hR hw (by decide) fX10_40 dX10_nextAshore_35 ?_
    refine E_iret dX10_nextAshore_38 rfl rfl ?_
    rw [hm]
    exact hq
  | succ f ih =>
    intro i hi0 hq
    have hi : m - (f + 1) = i := by omega
    refine E_iload_n dX10_nextAshore_2 rfl ?_
    refine E_aload_n dX10_nextAshore_3 rfl ?_
    refine W_get (j := 1) (i := 1) hR hw (by decide) fX10_40 dX10_nextAshore_4 ?_
    refine E_icmp_ge dX10_nextAshore_7 (fun c => absurd c (fun c => absurd ((nI_leI (by omega) (by omega)).mp (hm ▸ c)) (by omega))) (fun _ => ?_)
    refine E_aload_n dX10_nextAshore_10 rfl ?_
    refine L_get fX10_11 dX10_nextAshore_11 (by have := (hw).lt; omega) (sh_W hw) rfl ?_
    refine E_iload_n dX10_nextAshore_14 rfl ?_
    refine L_aald (j := i) dX10_nextAshore_15 (by have := (hw).lt; omega) (sh_Wc hw) rfl rfl (by omega) (by decide) (if_pos (by omega)) ?_
    refine P_bank (p := i) hR hw hmm hm9 (by omega) fX10_113 dX10_nextAshore_16 ?_
    refine E_aload_n dX10_nextAshore_19 rfl ?_
    refine W_get (j := 2) (i := 5) hR hw (by decide) fX10_47 dX10_nextAshore_20 ?_
    refine E_icmp_ne dX10_nextAshore_23 (fun c23 => ?_) (fun c23 => ?_)
    · refine E_iinc (v := 1) dX10_nextAshore_28 rfl (by decide) (by decide) ?_
      refine E_goto dX10_nextAshore_31 ?_
      rw [nI_1]
      exact E.loc (by exact ⟨rfl, rfl, rfl, trivial⟩) (ih (i + 1) (by omega) (by rw [nxF, if_neg (by rw [hi]; exact c23)] at hq; exact hq))
    · refine E_iload_n dX10_nextAshore_26 rfl ?_
      refine E_iret dX10_nextAshore_27 rfl rfl ?_
      rw [nxF, if_pos (by rw [hi]; exact c23), hi] at hq
      exact hq
theorem s_X10_nextAshore {Q : Int32 → HP → Prop} {w : Nat} (hw : isW w) (hR : WRep S w v) {m : Nat} (hmm : mN v = m) (hm9 : m ≤ 9) (hm : v 1 = nI m) {x : Int32} (a : Nat) (ha20 : a ≤ 20) (hx : x = nI a) (hq : Q (oM m (nxA v (v 5) a)) (lay Θ S)) : C Θ d 0 0 yX10_nextAshore cX10_nextAshore 3 (some .int) [.ref (tb Θ + w), .int x] 183 (lay Θ S) (Qi Q) := by
  refine C_of rfl rfl (Nat.le_of_ble_eq_true rfl) ?_
  subst hx
  by_cases ha : a ≤ m
  · refine E_iload_n dX10_nextAshore_0 rfl ?_
    refine E_istore_n dX10_nextAshore_1 (by decide) ?_
    exact E.loc (by exact ⟨rfl, rfl, rfl, trivial⟩) (l_X10_nextAshore hw hR hmm hm9 hm (m - a) a (by omega) (by rw [nxA, hmm] at hq; exact hq))
  · refine E_iload_n dX10_nextAshore_0 rfl ?_
    refine E_istore_n dX10_nextAshore_1 (by decide) ?_
    refine E_iload_n dX10_nextAshore_2 rfl ?_
    refine E_aload_n dX10_nextAshore_3 rfl ?_
    refine W_get (j := 1) (i := 1) hR hw (by decide) fX10_40 dX10_nextAshore_4 ?_
    refine E_icmp_ge dX10_nextAshore_7 (fun _ => ?_) (fun c => absurd (by rw [hm]; exact nI_le (by omega) (by omega)) c)
    refine E_aload_n dX10_nextAshore_34 rfl ?_
    refine W_get (j := 1) (i := 1) hR hw (by decide) fX10_40 dX10_nextAshore_35 ?_
    refine E_iret dX10_nextAshore_38 rfl rfl ?_
    rw [hm]
    rw [nxA, hmm, show m - a = 0 by omega] at hq
    exact hq
theorem s_X10_goAboard {Q : HP → Prop} {w : Nat} (hw : isW w) (hR : WRep S w v) {m : Nat} (hmm : mN v = m) (hm9 : m ≤ 9) {z : Int32} (p o : Nat) (hp : p < m) (ho : o < m) (hq : ∀ S', WRep S' w (goCl v p o z) → WF w S S' → Q (lay Θ S')) : C Θ d 0 0 yX10_goAboard cX10_goAboard 4 none [.ref (tb Θ + w), .int (nI p), .int (nI o), .int z] 183 (lay Θ S) (Qv Q) := by
  refine C_of rfl rfl (Nat.le_of_ble_eq_true rfl) ?_
  refine E_aload_n dX10_goAboard_0 rfl ?_
  refine E_iload_n dX10_goAboard_1 rfl ?_
  refine W_put (j := 4) (i := 7) hR hw (by decide) fX10_53 dX10_goAboard_2 (fun S2 h2 f2 => ?_)
  refine E_aload_n dX10_goAboard_5 rfl ?_
  refine E_iload_n dX10_goAboard_6 rfl ?_
  refine W_put (j := 5) (i := 8) h2 hw (by decide) fX10_56 dX10_goAboard_7 (fun S7 h7 f7 => ?_)
  refine E_aload_n dX10_goAboard_10 rfl ?_
  refine E_iload_n dX10_goAboard_11 rfl ?_
  refine W_put (j := 6) (i := 9) h7 hw (by decide) fX10_59 dX10_goAboard_12 (fun S12 h12 f12 => ?_)
  refine E_aload_n dX10_goAboard_15 rfl ?_
  refine E_ic (v := 1) dX10_goAboard_16 (by decide) ?_
  refine W_put (j := 3) (i := 6) h12 hw (by decide) fX10_50 dX10_goAboard_17 (fun S17 h17 f17 => ?_)
  refine E_aload_n dX10_goAboard_20 rfl ?_
  refine L_get fX10_11 dX10_goAboard_21 (by have := (hw).lt; omega) (sh_W hw) rfl ?_
  refine E_aload_n dX10_goAboard_24 rfl ?_
  refine W_get (j := 4) (i := 7) h17 hw (by decide) fX10_53 dX10_goAboard_25 ?_
  refine L_aald (j := p) dX10_goAboard_28 (by have := (hw).lt; omega) (sh_Wc hw) rfl (by rw [pk_un (by omega), pk_un (by omega), pk_un (by omega), pk_us]) (by omega) (by decide) (if_pos (by omega)) ?_
  refine E_ic (v := 2) dX10_goAboard_29 (by decide) ?_
  refine P_put (p := p) (f := 1) h17 hw ((mN_upd (by omega)).trans ((mN_upd (by omega)).trans ((mN_upd (by omega)).trans ((mN_upd (by omega)).trans hmm)))) hm9 hp (by decide) fX10_113 dX10_goAboard_30 (fun S30 h30 f30 => ?_)
  refine E_aload_n dX10_goAboard_33 rfl ?_
  refine L_get fX10_11 dX10_goAboard_34 (by have := (hw).lt; omega) (sh_W hw) rfl ?_
  refine E_aload_n dX10_goAboard_37 rfl ?_
  refine W_get (j := 5) (i := 8) h30 hw (by decide) fX10_56 dX10_goAboard_38 ?_
  refine L_aald (j := o) dX10_goAboard_41 (by have := (hw).lt; omega) (sh_Wc hw) rfl (by rw [pk_un (by omega), pk_un (by omega), pk_un (by omega), pk_us]) (by omega) (by decide) (if_pos (by omega)) ?_
  refine E_ic (v := 2) dX10_goAboard_42 (by decide) ?_
  refine P_put (p := o) (f := 1) h30 hw ((mN_upd (by omega)).trans ((mN_upd (by omega)).trans ((mN_upd (by omega)).trans ((mN_upd (by omega)).trans ((mN_upd (by omega)).trans hmm))))) hm9 ho (by decide) fX10_113 dX10_goAboard_43 (fun S43 h43 f43 => ?_)
  refine E_vret dX10_goAboard_46 rfl rfl ?_
  exact hq _ h43 (((((((WF.rf).tr f2).tr f7).tr f12).tr f17).tr f30).tr f43)
theorem s_X10_goAshore {Q : HP → Prop} {w : Nat} (hw : isW w) (hR : WRep S w v) {m : Nat} (hmm : mN v = m) (hm9 : m ≤ 9) (p o : Nat) (hp : p < m) (ho : o < m) (h7 : v 7 = nI p) (h8 : v 8 = nI o) (hq : ∀ S', WRep S' w (shCl v p o) → WF w S S' → Q (lay Θ S')) : C Θ d 0 0 yX10_goAshore cX10_goAshore 1 none [.ref (tb Θ + w)] 183 (lay Θ S) (Qv Q) := by
  refine C_of rfl rfl (Nat.le_of_ble_eq_true rfl) ?_
  refine E_aload_n dX10_goAshore_0 rfl ?_
  refine L_get fX10_11 dX10_goAshore_1 (by have := (hw).lt; omega) (sh_W hw) rfl ?_
  refine E_aload_n dX10_goAshore_4 rfl ?_
  refine W_get (j := 4) (i := 7) hR hw (by decide) fX10_53 dX10_goAshore_5 ?_
  refine L_aald (j := p) dX10_goAshore_8 (by have := (hw).lt; omega) (sh_Wc hw) rfl h7 (by omega) (by decide) (if_pos (by omega)) ?_
  refine E_aload_n dX10_goAshore_9 rfl ?_
  refine W_get (j := 2) (i := 5) hR hw (by decide) fX10_47 dX10_goAshore_10 ?_
  refine P_put (p := p) (f := 1) hR hw hmm hm9 hp (by decide) fX10_113 dX10_goAshore_13 (fun S13 h13 f13 => ?_)
  refine E_aload_n dX10_goAshore_16 rfl ?_
  refine L_get fX10_11 dX10_goAshore_17 (by have := (hw).lt; omega) (sh_W hw) rfl ?_
  refine E_aload_n dX10_goAshore_20 rfl ?_
  refine W_get (j := 5) (i := 8) h13 hw (by decide) fX10_56 dX10_goAshore_21 ?_
  refine L_aald (j := o) dX10_goAshore_24 (by have := (hw).lt; omega) (sh_Wc hw) rfl (by rw [pk_un (by omega)]; exact h8) (by omega) (by decide) (if_pos (by omega)) ?_
  refine E_aload_n dX10_goAshore_25 rfl ?_
  refine W_get (j := 2) (i := 5) h13 hw (by decide) fX10_47 dX10_goAshore_26 ?_
  refine P_put (p := o) (f := 1) h13 hw ((mN_upd (by omega)).trans hmm) hm9 ho (by decide) fX10_113 dX10_goAshore_29 (fun S29 h29 f29 => ?_)
  refine E_aload_n dX10_goAshore_32 rfl ?_
  refine E_ic (v := 0) dX10_goAshore_33 (by decide) ?_
  refine W_put (j := 3) (i := 6) h29 hw (by decide) fX10_50 dX10_goAshore_34 (fun S34 h34 f34 => ?_)
  refine E_vret dX10_goAshore_37 rfl rfl ?_
  refine hq _ (WRep_eq h34 ?_) ((((WF.rf).tr f13).tr f29).tr f34)
  rw [shCl, pk_un (by omega)]
theorem s_X4_apartFrom {Q : Int32 → HP → Prop} {w : Nat} (hw : isW w) (hR : WRep S w v) {m : Nat} (hmm : mN v = m) (hm9 : m ≤ 9) {z : Int32} (p o j : Nat) (hp : p < m) (ho : o < m) (hj : z = nI j) (hj6 : j < 6) (hq : Q (apV v p o j) (lay Θ S)) : C Θ (d + 1) 0 0 yX4_apartFrom cX4_apartFrom 3 (some .int) [.ref (tb Θ + (w + 4 + 2 * p)), .ref (tb Θ + (w + 4 + 2 * o)), .int z] 183 (lay Θ S) (Qi Q) := by
  refine C_of rfl rfl (Nat.le_of_ble_eq_true rfl) ?_
  refine E_aload_n dX4_apartFrom_0 rfl ?_
  refine P_views (p := p) hw (by omega) fX4_9 dX4_apartFrom_1 ?_
  refine E_iload_n dX4_apartFrom_4 rfl ?_
  refine V_get (p := p) (j := j) hR hw hmm hm9 hp dX4_apartFrom_5 hj hj6 ?_
  refine E_aload_n dX4_apartFrom_6 rfl ?_
  refine P_views (p := o) hw (by omega) fX4_9 dX4_apartFrom_7 ?_
  refine E_iload_n dX4_apartFrom_10 rfl ?_
  refine V_get (p := o) (j := j) hR hw hmm hm9 ho dX4_apartFrom_11 hj hj6 ?_
  refine E_isub dX4_apartFrom_12 ?_
  refine E_mabs mX4_38 w_abss w_mi w_absc dX4_apartFrom_13 (Nat.le_of_ble_eq_true rfl) ?_
  refine E_iret dX4_apartFrom_16 rfl rfl ?_
  rw [abs_ap]
  exact hq
end Wd
