/-! becomes, on both sides -/
theorem IC.kind {v : WV} {m p c : Nat} (h : IC v m) (hp : p < m) (hc : c < 6) : IC (upd v (15 + 9 * p) (nI c)) m := by
  refine h.pas hp (by omega) (by omega) ?_
  obtain ⟨-, ⟨t, h3, h4⟩, ⟨b, h5, h6⟩, h7⟩ := h.1.2.2 p hp
  refine ⟨⟨c, hc, pk_us⟩, ⟨t, h3, by rw [tmF, pk_un (by omega)]; exact h4⟩, ⟨b, h5, by rw [pk_un (by omega)]; exact h6⟩, fun j hj => ?_⟩
  obtain ⟨q, hq, e⟩ := h7 j hj
  exact ⟨q, hq, by rw [vwF, pk_un (by omega)]; exact e⟩
theorem IV.kind {v : WV} {m p c : Nat} (h : IV v) (hmm : mN v = m) (hp : p < m) (hc : c < 6) : IV (upd v (15 + 9 * p) (nI c)) := by
  obtain ⟨m', hI, w, h1, h2, h3⟩ := IV_iff.mp h
  have hm9 := hI.1.1
  have e : m = m' := by rw [← hmm, mN, hI.1.2.1, nI_clamp (by omega)]
  subst e
  refine IV_iff.mpr ⟨m, hI.kind hp hc, w, h1, by rw [pk_un (by omega)]; exact h2, fun h0 => ?_⟩
  obtain ⟨q, r, j, a1, a2, a3, a4, a5, a6⟩ := h3 h0
  exact ⟨q, r, j, a1, a2, a3, by rw [pk_un (by omega)]; exact a4, by rw [pk_un (by omega)]; exact a5, by rw [pk_un (by omega)]; exact a6⟩
def beF (v : WV) (p n : Nat) : Nat → Int32 × Int32
  | 0 => (0, -1)
  | i + 1 => if miN (upd v (15 + 9 * p) (nI i)) n 10 ≤ (beF v p n i).2 then beF v p n i else (nI i, miN (upd v (15 + 9 * p) (nI i)) n 10)
theorem be_keep {v : WV} {p n i : Nat} (h : miN (upd v (15 + 9 * p) (nI i)) n 10 ≤ (beF v p n i).2) : beF v p n (i + 1) = beF v p n i := by rw [beF, if_pos h]
theorem be_new {v : WV} {p n i : Nat} (h : ¬ miN (upd v (15 + 9 * p) (nI i)) n 10 ≤ (beF v p n i).2) : beF v p n (i + 1) = (nI i, miN (upd v (15 + 9 * p) (nI i)) n 10) := by rw [beF, if_neg h]
def becomesR (v : WV) (x y z : Int32) : Int32 := (ix x (mN v)).elim bad fun p => if 1 ≤ y ∧ y ≤ 60 then (if 0 ≤ z ∧ z ≤ 1 then (if z = 0 then (beF v p y.toNatClampNeg 6).1 else (beF v p y.toNatClampNeg 6).2) else bad) else bad
section Bc
variable {Θ : Th} {d : Nat} {S : SS} {v : WV}
theorem l_X12_becomes {Q : Int32 → HP → Prop} (iv : IV v) {m : Nat} (hm : v 1 = nI m) (hmm : mN v = m) (hm9 : m ≤ 9) {n p : Nat} (hp : p < m) (hn : n ≤ 60) {z : Int32} : ∀ (f : Nat) (S : SS) (i : Nat) (b6 b4 b5 : Int32), b6 = nI i → i + f = 6 → b4 = (beF v p n i).1 → b5 = (beF v p n i).2 → S 160 = v → (∀ k, k < 1468 → S 163 k = v k) → (∀ S', S' 160 = v → MH S S' → Q (if z = 0 then (beF v p n 6).1 else (beF v p n 6).2) (lay Θ S')) → E Θ (d + 7) 0 0 yX12_becomes cX12_becomes 8 (some .int) 0 0 183 (lay Θ S) 43 [(6, .int b6), (5, .int b5), (4, .int b4), (3, .int z), (2, .int (nI n)), (1, .int (nI p)), (0, .ref (tb Θ + 159))] [] (Qi Q) := by
  intro f
  induction f with
  | zero =>
    intro S i b6 b4 b5 hb6 hi hb4 hb5 hv hB hq
    obtain rfl : i = 6 := by omega
    refine E_iload dX12_becomes_43 rfl ?_
    refine E_ic (v := 5) dX12_becomes_45 (by decide) ?_
    refine E_icmp_gt dX12_becomes_46 (fun _ => ?_) (fun c => absurd (by rw [hb6]; exact nI_lt (a := 5) (by omega) (by omega)) c)
    refine E_iload_n dX12_becomes_102 rfl ?_
    refine E_if_ne dX12_becomes_103 (fun c103 => ?_) (fun c103 => ?_)
    · refine E_iload dX12_becomes_111 rfl ?_
      refine E_iret dX12_becomes_113 rfl rfl ?_
      rw [if_neg c103] at hq
      rw [hb5]
      exact hq S hv MH.rf
    · refine E_iload dX12_becomes_106 rfl ?_
      refine E_goto dX12_becomes_108 ?_
      refine E_iret dX12_becomes_113 rfl rfl ?_
      rw [if_pos c103] at hq
      rw [hb4]
      exact hq S hv MH.rf
  | succ f ih =>
    intro S i b6 b4 b5 hb6 hi hb4 hb5 hv hB hq
    refine E_iload dX12_becomes_43 rfl ?_
    refine E_ic (v := 5) dX12_becomes_45 (by decide) ?_
    refine E_icmp_gt dX12_becomes_46 (fun c => absurd c (by rw [hb6]; exact i_lt (nI_le (b := 5) (by omega) (by omega)))) (fun _ => ?_)
    refine E_aload_n dX12_becomes_49 rfl ?_
    refine E_iload_n dX12_becomes_50 rfl ?_
    refine E_ic (v := 0) dX12_becomes_51 (by decide) ?_
    refine E_iload dX12_becomes_52 rfl ?_
    refine E_V3v vX12_103_12 dX12_becomes_54 (Nat.le_of_ble_eq_true rfl) (by decide) (sh_159 _) (s_X12_put hv p 0 (15 + 9 * p) rfl rfl (by omega) (by omega) (fun S54 h54 f54 => ?_))
    refine E_aload_n dX12_becomes_57 rfl ?_
    refine E_iload_n dX12_becomes_58 rfl ?_
    rw [hb6] at h54
    have ivL : IV (upd v (15 + 9 * p) (nI i)) := iv.kind hmm hp (by omega)
    refine E_V1i vX12_199_12 dX12_becomes_59 (Nat.le_of_ble_eq_true rfl) (by decide) (sh_159 _) (s_X12_crossedBy h54 ivL (by omega) rfl (fun k hk => by rw [f54 163 (by decide) (by decide) (by decide)]; exact hB k hk) (fun k hk => pk_un (by omega)) (fun S59 h59 B59 f59 => ?_))
    refine E_istore dX12_becomes_62 (by decide) ?_
    refine E_iload dX12_becomes_64 rfl ?_
    refine E_iload dX12_becomes_66 rfl ?_
    refine E_icmp_le dX12_becomes_68 (fun c68 => ?_) (fun c68 => ?_)
    · refine E_iload dX12_becomes_76 rfl ?_
      refine E_istore dX12_becomes_78 (by decide) ?_
      refine E_iload dX12_becomes_80 rfl ?_
      refine E_iload dX12_becomes_82 rfl ?_
      refine E_icmp_le dX12_becomes_84 (fun _ => ?_) (fun c => absurd c68 c)
      refine E_iload dX12_becomes_92 rfl ?_
      refine E_istore dX12_becomes_94 (by decide) ?_
      refine E_iinc (v := 1) dX12_becomes_96 rfl (by decide) (by decide) ?_
      refine E_goto dX12_becomes_99 ?_
      exact E.loc (by exact ⟨rfl, rfl, rfl, rfl, rfl, rfl, rfl, trivial⟩) (ih S59 (i + 1) _ _ _ (by rw [hb6, nI_1]) (by omega) (by rw [be_keep (by rw [← hb5]; exact c68)]; exact hb4) (by rw [be_keep (by rw [← hb5]; exact c68)]; exact hb5) h59 B59 (fun S9 a9 b9 => hq S9 a9 ((f54.mh.tr f59).tr b9)))
    · refine E_iload dX12_becomes_71 rfl ?_
      refine E_goto dX12_becomes_73 ?_
      refine E_istore dX12_becomes_78 (by decide) ?_
      refine E_iload dX12_becomes_80 rfl ?_
      refine E_iload dX12_becomes_82 rfl ?_
      refine E_icmp_le dX12_becomes_84 (fun c => absurd c c68) (fun _ => ?_)
      refine E_iload dX12_becomes_87 rfl ?_
      refine E_goto dX12_becomes_89 ?_
      refine E_istore dX12_becomes_94 (by decide) ?_
      refine E_iinc (v := 1) dX12_becomes_96 rfl (by decide) (by decide) ?_
      refine E_goto dX12_becomes_99 ?_
      exact E.loc (by exact ⟨rfl, rfl, rfl, rfl, rfl, rfl, rfl, trivial⟩) (ih S59 (i + 1) _ _ _ (by rw [hb6, nI_1]) (by omega) (by rw [be_new (by rw [← hb5]; exact c68)]; exact hb6) (by rw [be_new (by rw [← hb5]; exact c68)]) h59 B59 (fun S9 a9 b9 => hq S9 a9 ((f54.mh.tr f59).tr b9)))
theorem s_X12_becomes {Q : Int32 → HP → Prop} (hv : S 160 = v) (iv : IV v) {x y z : Int32} (hq : ∀ S', S' 160 = v → MH S S' → Q (becomesR v x y z) (lay Θ S')) : C Θ (d + 7) 0 0 yX12_becomes cX12_becomes 8 (some .int) [.ref (tb Θ + 159), .int x, .int y, .int z] 183 (lay Θ S) (Qi Q) := by
  refine C_of rfl rfl (Nat.le_of_ble_eq_true rfl) ?_
  obtain ⟨m, hm9, hm, hpa⟩ := iv.1
  have hmm : mN v = m := by rw [mN, hm, nI_clamp (by omega)]
  have hm1 : S 160 1 = nI m := by rw [hv]; exact hm
  refine E_aload_n dX12_becomes_0 rfl ?_
  refine E_iload_n dX12_becomes_1 rfl ?_
  refine E_V1i vX12_112_12 dX12_becomes_2 (Nat.le_of_ble_eq_true rfl) (by decide) (sh_159 _) (s_X12_isOne hm1 hm9 (fun g1 => ?_) (fun g1 => ?_))
  · obtain ⟨p, hp, ep, ip⟩ := ix_some (by omega) g1
    refine E_if_eq dX12_becomes_5 (fun c => absurd c (by decide)) (fun _ => ?_)
    refine E_iload_n dX12_becomes_8 rfl ?_
    refine E_ic (v := 1) dX12_becomes_9 (by decide) ?_
    refine E_bipush (v := 60) dX12_becomes_10 (by decide) ?_
    refine E_S3i sX12_81 dX12_becomes_12 (Nat.le_of_ble_eq_true rfl) (s_X12_in (fun g2a g2b => ?_) (fun g2 => ?_))
    · refine E_if_eq dX12_becomes_15 (fun c => absurd c (by decide)) (fun _ => ?_)
      refine E_iload_n dX12_becomes_18 rfl ?_
      refine E_ic (v := 0) dX12_becomes_19 (by decide) ?_
      refine E_ic (v := 1) dX12_becomes_20 (by decide) ?_
      refine E_S3i sX12_81 dX12_becomes_21 (Nat.le_of_ble_eq_true rfl) (s_X12_in (fun g3a g3b => ?_) (fun g3 => ?_))
      · refine E_if_ne dX12_becomes_24 (fun _ => ?_) (fun c => absurd c (by decide))
        refine E_aload_n dX12_becomes_30 rfl ?_
        refine E_V0v vX12_181_12 dX12_becomes_31 (Nat.le_of_ble_eq_true rfl) (by decide) (sh_159 _) (s_X12_thinks hv (fun S31 h31 B31 f31 => ?_))
        refine E_ic (v := 0) dX12_becomes_34 (by decide) ?_
        refine E_istore dX12_becomes_35 (by decide) ?_
        refine E_ic (v := (-1)) dX12_becomes_37 (by decide) ?_
        refine E_istore dX12_becomes_38 (by decide) ?_
        refine E_ic (v := 0) dX12_becomes_40 (by decide) ?_
        refine E_istore dX12_becomes_41 (by decide) ?_
        obtain ⟨n, hn, en⟩ := isIx_le (n := 60) (by decide) (Int32.le_trans (by decide) g2a) g2b
        rw [becomesR, hmm, ip, Option.elim, if_pos ⟨g2a, g2b⟩, if_pos ⟨g3a, g3b⟩, en, nI_clamp (by omega)] at hq
        rw [en, ep]
        exact E.loc (by exact ⟨rfl, rfl, rfl, rfl, rfl, rfl, rfl, trivial⟩) (l_X12_becomes iv hm hmm hm9 hp (by omega) 6 S31 0 0 0 (-1) rfl (by omega) rfl rfl h31 B31 (fun S9 a9 b9 => hq S9 a9 (f31.tr b9)))
      · refine E_if_ne dX12_becomes_24 (fun c => absurd rfl c) (fun _ => ?_)
        refine E_ldc dX12_becomes_27 kX12_107 ?_
        refine E_iret dX12_becomes_29 rfl rfl ?_
        rw [becomesR, hmm, ip, Option.elim, if_pos ⟨g2a, g2b⟩, if_neg g3] at hq
        exact hq S hv MH.rf
    · refine E_if_eq dX12_becomes_15 (fun _ => ?_) (fun c => absurd (by decide) c)
      refine E_ldc dX12_becomes_27 kX12_107 ?_
      refine E_iret dX12_becomes_29 rfl rfl ?_
      rw [becomesR, hmm, ip, Option.elim, if_neg g2] at hq
      exact hq S hv MH.rf
  · have ip := ix_none (by omega) g1
    refine E_if_eq dX12_becomes_5 (fun _ => ?_) (fun c => absurd (by decide) c)
    refine E_ldc dX12_becomes_27 kX12_107 ?_
    refine E_iret dX12_becomes_29 rfl rfl ?_
    rw [becomesR, hmm, ip] at hq
    exact hq S hv MH.rf
theorem l_X11_becomes {Q : Int32 → HP → Prop} (iv : IV v) {m : Nat} (hm : v 1 = nI m) (hmm : mN v = m) (hm9 : m ≤ 9) {n p : Nat} (hp : p < m) (hn : n ≤ 60) {z : Int32} : ∀ (f : Nat) (S : SS) (i : Nat) (b6 b4 b5 : Int32), b6 = nI i → i + f = 6 → b4 = (beF v p n i).1 → b5 = (beF v p n i).2 → WRep S 20 v → TRep S v → (∀ S', WF 64 S S' → Q (if z = 0 then (beF v p n 6).1 else (beF v p n 6).2) (lay Θ S')) → E Θ (d + 7) 0 0 yX11_becomes cX11_becomes 7 (some .int) 0 0 183 (lay Θ S) 39 [(6, .int b6), (5, .int b5), (4, .int b4), (3, .int z), (2, .int (nI n)), (1, .int (nI p)), (0, .ref (tb Θ + 0))] [] (Qi Q) := by
  have hw : isW 64 := isW64
  intro f
  induction f with
  | zero =>
    intro S i b6 b4 b5 hb6 hi hb4 hb5 hR hT hq
    obtain rfl : i = 6 := by omega
    refine E_iload dX11_becomes_39 rfl ?_
    refine E_bipush (v := 6) dX11_becomes_41 (by decide) ?_
    refine E_icmp_ge dX11_becomes_43 (fun _ => ?_) (fun c => absurd (by rw [hb6]; exact nI_le (a := 6) (by omega) (by omega)) c)
    refine E_iload_n dX11_becomes_119 rfl ?_
    refine E_if_ne dX11_becomes_120 (fun c120 => ?_) (fun c120 => ?_)
    · refine E_iload dX11_becomes_128 rfl ?_
      refine E_iret dX11_becomes_130 rfl rfl ?_
      rw [if_neg c120] at hq
      rw [hb5]
      exact hq S WF.rf
    · refine E_iload dX11_becomes_123 rfl ?_
      refine E_goto dX11_becomes_125 ?_
      refine E_iret dX11_becomes_130 rfl rfl ?_
      rw [if_pos c120] at hq
      rw [hb4]
      exact hq S WF.rf
  | succ f ih =>
    intro S i b6 b4 b5 hb6 hi hb4 hb5 hR hT hq
    refine E_iload dX11_becomes_39 rfl ?_
    refine E_bipush (v := 6) dX11_becomes_41 (by decide) ?_
    refine E_icmp_ge dX11_becomes_43 (fun c => absurd c (fun c => absurd ((nI_leI (a := 6) (by omega) (by omega)).mp (hb6 ▸ c)) (by omega))) (fun _ => ?_)
    refine E_aload_n dX11_becomes_46 rfl ?_
    refine L_get fX11_90 dX11_becomes_47 (by decide) sh_0 rfl ?_
    refine E_aload_n dX11_becomes_50 rfl ?_
    refine L_get fX11_83 dX11_becomes_51 (by decide) sh_0 rfl ?_
    refine E_V1v vX11_230_10 dX11_becomes_54 (Nat.le_of_ble_eq_true rfl) (by have := (isW64).lt; omega) ((sh_W isW64) _) (s_X10_becomeAs isW64 isW20 (by decide) hR hmm hm9 hm (law_ix hR iv) (fun S54 h54 f54 => ?_))
    refine E_aload_n dX11_becomes_57 rfl ?_
    refine L_get fX11_90 dX11_becomes_58 (by decide) sh_0 rfl ?_
    refine L_get fX11_111 dX11_becomes_61 (by have := (isW64).lt; omega) (sh_W isW64) rfl ?_
    refine E_iload_n dX11_becomes_64 rfl ?_
    refine L_aald (j := p) dX11_becomes_65 (by have := (isW64).lt; omega) (sh_Wc isW64) rfl rfl (by omega) (by decide) (if_pos (by omega)) ?_
    refine E_aload_n dX11_becomes_66 rfl ?_
    refine L_get fX11_11 dX11_becomes_67 (by decide) sh_0 rfl ?_
    refine E_iload dX11_becomes_70 rfl ?_
    refine L_aald (j := i) dX11_becomes_72 (by decide) sh_1 rfl hb6 (by omega) (by decide) (if_pos (by omega)) ?_
    refine P_nput (p := p) h54 isW64 hmm hm9 hp (show i < 6 by omega) fX11_121 dX11_becomes_73 (fun S73 h73 f73 => ?_)
    refine E_aload_n dX11_becomes_76 rfl ?_
    refine L_get fX11_90 dX11_becomes_77 (by decide) sh_0 rfl ?_
    refine E_iload_n dX11_becomes_80 rfl ?_
    have ivL : IV (upd v (15 + 9 * p) (nI i)) := iv.kind hmm hp (by omega)
    refine E_V1v vX11_234_10 dX11_becomes_81 (Nat.le_of_ble_eq_true rfl) (by have := (isW64).lt; omega) ((sh_W isW64) _) (s_X10_passMinutes isW64 h73 ivL ((hT.keep isW64 f54 eqHi.rf rfl (tN_le iv)).keep isW64 f73 (eqHi.rf.up (by omega)) (pk_un (by omega)) (tN_le iv)) (by omega) rfl (fun S81 h81 t81 f81 => ?_))
    refine E_aload_n dX11_becomes_84 rfl ?_
    refine L_get fX11_90 dX11_becomes_85 (by decide) sh_0 rfl ?_
    refine L_get fX11_205 dX11_becomes_88 (by have := (isW64).lt; omega) (sh_W isW64) rfl ?_
    refine E_ic (v := 0) dX11_becomes_91 (by decide) ?_
    refine T_get (j := 0) h81 isW64 dX11_becomes_92 rfl (by decide) ?_
    refine E_iload dX11_becomes_93 rfl ?_
    refine E_icmp_le dX11_becomes_95 (fun c95 => ?_) (fun c95 => ?_)
    · refine E_iinc (v := 1) dX11_becomes_113 rfl (by decide) (by decide) ?_
      refine E_goto dX11_becomes_116 ?_
      exact E.loc (by exact ⟨rfl, rfl, rfl, rfl, rfl, rfl, rfl, trivial⟩) (ih S81 (i + 1) _ _ _ (by rw [hb6, nI_1]) (by omega) (by rw [be_keep (by rw [← hb5]; exact c95)]; exact hb4) (by rw [be_keep (by rw [← hb5]; exact c95)]; exact hb5) (WRep.wf isW20 isW64 (by decide) hR (by omega) ((f54.tr f73).tr f81)) (hT.keep isW64 ((f54.tr f73).tr f81) eqHi.rf rfl (tN_le iv)) (fun S9 b9 => hq S9 (((f54.tr f73).tr f81).tr b9)))
    · refine E_aload_n dX11_becomes_98 rfl ?_
      refine L_get fX11_90 dX11_becomes_99 (by decide) sh_0 rfl ?_
      refine L_get fX11_205 dX11_becomes_102 (by have := (isW64).lt; omega) (sh_W isW64) rfl ?_
      refine E_ic (v := 0) dX11_becomes_105 (by decide) ?_
      refine T_get (j := 0) h81 isW64 dX11_becomes_106 rfl (by decide) ?_
      refine E_istore dX11_becomes_107 (by decide) ?_
      refine E_iload dX11_becomes_109 rfl ?_
      refine E_istore dX11_becomes_111 (by decide) ?_
      refine E_iinc (v := 1) dX11_becomes_113 rfl (by decide) (by decide) ?_
      refine E_goto dX11_becomes_116 ?_
      exact E.loc (by exact ⟨rfl, rfl, rfl, rfl, rfl, rfl, rfl, trivial⟩) (ih S81 (i + 1) _ _ _ (by rw [hb6, nI_1]) (by omega) (by rw [be_new (by rw [← hb5]; exact c95)]; exact hb6) (by rw [be_new (by rw [← hb5]; exact c95)]) (WRep.wf isW20 isW64 (by decide) hR (by omega) ((f54.tr f73).tr f81)) (hT.keep isW64 ((f54.tr f73).tr f81) eqHi.rf rfl (tN_le iv)) (fun S9 b9 => hq S9 (((f54.tr f73).tr f81).tr b9)))
theorem s_X11_becomes {Q : Int32 → HP → Prop} (hR : WRep S 20 v) (iv : IV v) (hT : TRep S v) {x y z : Int32} (hq : ∀ S', WF 64 S S' → Q (becomesR v x y z) (lay Θ S')) : C Θ (d + 7) 0 0 yX11_becomes cX11_becomes 7 (some .int) [.ref (tb Θ + 0), .int x, .int y, .int z] 183 (lay Θ S) (Qi Q) := by
  refine C_of rfl rfl (Nat.le_of_ble_eq_true rfl) ?_
  obtain ⟨m, hm9, hm, hpa⟩ := iv.1
  have hmm : mN v = m := by rw [mN, hm, nI_clamp (by omega)]
  have hw : isW 20 := isW20
  have hm1 : S 20 1 = nI m := (hR.1 (1, 1) (by decide)).trans hm
  refine E_aload_n dX11_becomes_0 rfl ?_
  refine E_iload_n dX11_becomes_1 rfl ?_
  refine E_V1i vX11_118_11 dX11_becomes_2 (Nat.le_of_ble_eq_true rfl) (by decide) (sh_0 _) (s_X11_isOne hm1 hm9 (fun g1 => ?_) (fun g1 => ?_))
  · obtain ⟨p, hp, ep, ip⟩ := ix_some (by omega) g1
    refine E_if_eq dX11_becomes_5 (fun c => absurd c (by decide)) (fun _ => ?_)
    refine E_iload_n dX11_becomes_8 rfl ?_
    refine E_ic (v := 1) dX11_becomes_9 (by decide) ?_
    refine E_bipush (v := 60) dX11_becomes_10 (by decide) ?_
    refine E_S3i sX11_145 dX11_becomes_12 (Nat.le_of_ble_eq_true rfl) (s_X11_within (fun g2a g2b => ?_) (fun g2 => ?_))
    · refine E_if_eq dX11_becomes_15 (fun c => absurd c (by decide)) (fun _ => ?_)
      refine E_iload_n dX11_becomes_18 rfl ?_
      refine E_ic (v := 0) dX11_becomes_19 (by decide) ?_
      refine E_ic (v := 1) dX11_becomes_20 (by decide) ?_
      refine E_S3i sX11_145 dX11_becomes_21 (Nat.le_of_ble_eq_true rfl) (s_X11_within (fun g3a g3b => ?_) (fun g3 => ?_))
      · refine E_if_ne dX11_becomes_24 (fun _ => ?_) (fun c => absurd c (by decide))
        refine E_ic (v := 0) dX11_becomes_30 (by decide) ?_
        refine E_istore dX11_becomes_31 (by decide) ?_
        refine E_ic (v := (-1)) dX11_becomes_33 (by decide) ?_
        refine E_istore dX11_becomes_34 (by decide) ?_
        refine E_ic (v := 0) dX11_becomes_36 (by decide) ?_
        refine E_istore dX11_becomes_37 (by decide) ?_
        obtain ⟨n, hn, en⟩ := isIx_le (n := 60) (by decide) (Int32.le_trans (by decide) g2a) g2b
        rw [becomesR, hmm, ip, Option.elim, if_pos ⟨g2a, g2b⟩, if_pos ⟨g3a, g3b⟩, en, nI_clamp (by omega)] at hq
        rw [en, ep]
        exact E.loc (by exact ⟨rfl, rfl, rfl, rfl, rfl, rfl, rfl, trivial⟩) (l_X11_becomes iv hm hmm hm9 hp (by omega) 6 S 0 0 0 (-1) rfl (by omega) rfl rfl hR hT hq)
      · refine E_if_ne dX11_becomes_24 (fun c => absurd rfl c) (fun _ => ?_)
        refine E_ldc dX11_becomes_27 kX11_105 ?_
        refine E_iret dX11_becomes_29 rfl rfl ?_
        rw [becomesR, hmm, ip, Option.elim, if_pos ⟨g2a, g2b⟩, if_neg g3] at hq
        exact hq S WF.rf
    · refine E_if_eq dX11_becomes_15 (fun _ => ?_) (fun c => absurd (by decide) c)
      refine E_ldc dX11_becomes_27 kX11_105 ?_
      refine E_iret dX11_becomes_29 rfl rfl ?_
      rw [becomesR, hmm, ip, Option.elim, if_neg g2] at hq
      exact hq S WF.rf
  · have ip := ix_none (by omega) g1
    refine E_if_eq dX11_becomes_5 (fun _ => ?_) (fun c => absurd (by decide) c)
    refine E_ldc dX11_becomes_27 kX11_105 ?_
    refine E_iret dX11_becomes_29 rfl rfl ?_
    rw [becomesR, hmm, ip] at hq
    exact hq S WF.rf
end Bc
