/-! calm, on both sides -/
theorem IC.lim {v : WV} {m b : Nat} (h : IC v m) (h1 : 1 ≤ b) (hb : b < 100) : IC (upd v 4 (nI b)) m := by
  obtain ⟨⟨a1, a2, a3⟩, hb5, ⟨c, c1, c2⟩, -, t, t1, t2, t3⟩ := h
  exact ⟨⟨a1, a2, fun p hp => (a3 p hp).congr (fun k _ _ => pk_un (by omega))⟩, hb5, ⟨c, c1, c2⟩, ⟨b, h1, hb, pk_us⟩, t, t1, t2, fun i hi => (t3 i hi).hi (eqHi.rf.up (by omega))⟩
theorem IV.lim {v : WV} {b : Nat} (h : IV v) (h1 : 1 ≤ b) (hb : b < 100) : IV (upd v 4 (nI b)) := by
  obtain ⟨m, hc, hw⟩ := IV_iff.mp h
  exact IV_iff.mpr ⟨m, hc.lim h1 hb, hw⟩
theorem WRep.wf {S S' : SS} {w u : Nat} {v : WV} (hw : isW w) (hu : isW u) (hne : u ≠ w) (h : WRep S w v) (hm : mN v ≤ 9) (hf : WF u S S') : WRep S' w v := by
  obtain ⟨h1, h2, h3, h4⟩ := h
  have hd := W_dis hw hu hne
  have hl : w < 65 := by rcases hw with rfl | rfl | rfl <;> decide
  have g : ∀ k, w ≤ k → k < w + 22 → S' k = S k := fun k a b => hf k (by omega) (fun t _ => by omega)
  refine ⟨fun q hq => by rw [g w (by omega) (by omega)]; exact h1 q hq, fun j hj => by rw [g (w + 2) (by omega) (by omega)]; exact h2 j hj, fun c hc => by rw [g (w + 3) (by omega) (by omega)]; exact h3 c hc, fun p hp => ?_⟩
  obtain ⟨b1, b2, b3, b4⟩ := h4 p hp
  have e1 := g (w + 4 + 2 * p) (by omega) (by omega)
  have e2 := g (w + 4 + 2 * p + 1) (by omega) (by omega)
  exact ⟨by rw [e1]; exact b1, by rw [e1]; exact b2, by rw [e1]; exact b3, fun j hj => by rw [e2]; exact b4 j hj⟩
def caF (v : WV) (n : Nat) : Nat → Int32 × Int32
  | 0 => (0, -1)
  | i + 1 => if miN (upd v 4 (nI (5 * (i + 1)))) n 10 ≤ (caF v n i).2 then caF v n i else (nI (5 * (i + 1)), miN (upd v 4 (nI (5 * (i + 1)))) n 10)
theorem ca_keep {v : WV} {n i : Nat} (h : miN (upd v 4 (nI (5 * (i + 1)))) n 10 ≤ (caF v n i).2) : caF v n (i + 1) = caF v n i := by rw [caF, if_pos h]
theorem ca_new {v : WV} {n i : Nat} (h : ¬ miN (upd v 4 (nI (5 * (i + 1)))) n 10 ≤ (caF v n i).2) : caF v n (i + 1) = (nI (5 * (i + 1)), miN (upd v 4 (nI (5 * (i + 1)))) n 10) := by rw [caF, if_neg h]
def calmR (v : WV) (x z : Int32) : Int32 := if 1 ≤ x ∧ x ≤ 60 then (if 0 ≤ z ∧ z ≤ 1 then (if z = 0 then (caF v x.toNatClampNeg 19).1 else (caF v x.toNatClampNeg 19).2) else bad) else bad
section Ca
variable {Θ : Th} {d : Nat} {S : SS} {v : WV}
theorem s_X12_crossedBy {Q : Int32 → HP → Prop} {u : WV} (hv : S 160 = u) (iv : IV u) {x : Int32} {n : Nat} (hn : n ≤ 1000) (hx : x = nI n) (hB : ∀ k, k < 1468 → S 163 k = v k) (hH : ∀ k, 1468 ≤ k → u k = v k) (hq : ∀ S', S' 160 = v → (∀ k, k < 1468 → S' 163 k = v k) → MH S S' → Q (miN u n 10) (lay Θ S')) : C Θ (d + 6) 0 0 yX12_crossedBy cX12_crossedBy 3 (some .int) [.ref (tb Θ + 159), .int x] 183 (lay Θ S) (Qi Q) := by
  refine C_of rfl rfl (Nat.le_of_ble_eq_true rfl) ?_
  refine E_aload_n dX12_crossedBy_0 rfl ?_
  refine E_iload_n dX12_crossedBy_1 rfl ?_
  refine E_V1v vX12_168_12 dX12_crossedBy_2 (Nat.le_of_ble_eq_true rfl) (by decide) (sh_159 _) (s_X12_goesOn hv iv hn hx (fun S2 h2 f2 => ?_))
  refine E_aload_n dX12_crossedBy_5 rfl ?_
  refine L_get fX12_9 dX12_crossedBy_6 (by decide) sh_159 rfl ?_
  refine E_bipush (v := 10) dX12_crossedBy_9 (by decide) ?_
  refine N_iald (j := 10) dX12_crossedBy_11 rfl (by decide) h2 ?_
  refine E_istore_n dX12_crossedBy_12 (by decide) ?_
  refine E_aload_n dX12_crossedBy_13 rfl ?_
  have B2 : ∀ k, k < 1468 → S2 163 k = v k := fun k hk => by rw [f2 163 (by decide) (by decide) (by decide)]; exact hB k hk
  have H2 : ∀ k, 1468 ≤ k → S2 160 k = v k := fun k hk => by rw [h2, miN_un iv (Or.inr (Or.inr (by omega))) n]; exact hH k hk
  refine E_V0v vX12_184_12 dX12_crossedBy_14 (Nat.le_of_ble_eq_true rfl) (by decide) (sh_159 _) (s_X12_putsBack B2 H2 (fun S14 h14 f14 => ?_))
  refine E_iload_n dX12_crossedBy_17 rfl ?_
  refine E_iret dX12_crossedBy_18 rfl rfl ?_
  exact hq S14 h14 (fun k hk => by rw [f14 163 (by decide) (by decide) (by decide)]; exact B2 k hk) (f2.mh.tr f14.mh)
theorem l_X12_calm {Q : Int32 → HP → Prop} (iv : IV v) {n : Nat} (hn : n ≤ 60) {z : Int32} : ∀ (f : Nat) (S : SS) (i : Nat) (b5 b3 b4 : Int32), b5 = nI (5 * (i + 1)) → i + f = 19 → b3 = (caF v n i).1 → b4 = (caF v n i).2 → S 160 = v → (∀ k, k < 1468 → S 163 k = v k) → (∀ S', S' 160 = v → MH S S' → Q (if z = 0 then (caF v n 19).1 else (caF v n 19).2) (lay Θ S')) → E Θ (d + 7) 0 0 yX12_calm cX12_calm 7 (some .int) 0 0 183 (lay Θ S) 34 [(5, .int b5), (4, .int b4), (3, .int b3), (2, .int z), (1, .int (nI n)), (0, .ref (tb Θ + 159))] [] (Qi Q) := by
  intro f
  induction f with
  | zero =>
    intro S i b5 b3 b4 hb5 hi hb3 hb4 hv hB hq
    obtain rfl : i = 19 := by omega
    refine E_iload dX12_calm_34 rfl ?_
    refine E_bipush (v := 100) dX12_calm_36 (by decide) ?_
    refine E_icmp_ge dX12_calm_38 (fun _ => ?_) (fun c => absurd (by rw [hb5]; exact nI_le (a := 100) (by omega) (by omega)) c)
    refine E_iload_n dX12_calm_92 rfl ?_
    refine E_if_ne dX12_calm_93 (fun c93 => ?_) (fun c93 => ?_)
    · refine E_iload dX12_calm_100 rfl ?_
      refine E_iret dX12_calm_102 rfl rfl ?_
      rw [if_neg c93] at hq
      rw [hb4]
      exact hq S hv MH.rf
    · refine E_iload_n dX12_calm_96 rfl ?_
      refine E_goto dX12_calm_97 ?_
      refine E_iret dX12_calm_102 rfl rfl ?_
      rw [if_pos c93] at hq
      rw [hb3]
      exact hq S hv MH.rf
  | succ f ih =>
    intro S i b5 b3 b4 hb5 hi hb3 hb4 hv hB hq
    refine E_iload dX12_calm_34 rfl ?_
    refine E_bipush (v := 100) dX12_calm_36 (by decide) ?_
    refine E_icmp_ge dX12_calm_38 (fun c => absurd c (fun c => absurd ((nI_leI (a := 100) (by omega) (by omega)).mp (hb5 ▸ c)) (by omega))) (fun _ => ?_)
    refine E_aload_n dX12_calm_41 rfl ?_
    refine L_get fX12_9 dX12_calm_42 (by decide) sh_159 rfl ?_
    refine E_ic (v := 4) dX12_calm_45 (by decide) ?_
    refine E_iload dX12_calm_46 rfl ?_
    refine N_iast (j := 4) dX12_calm_48 rfl (by decide) hv (fun S48 h48 f48 => ?_)
    refine E_aload_n dX12_calm_49 rfl ?_
    refine E_iload_n dX12_calm_50 rfl ?_
    have ivL : IV (upd v 4 b5) := by rw [hb5]; exact iv.lim (by omega) (by omega)
    refine E_V1i vX12_199_12 dX12_calm_51 (Nat.le_of_ble_eq_true rfl) (by decide) (sh_159 _) (s_X12_crossedBy h48 ivL (by omega) rfl (fun k hk => by rw [f48 163 (by decide) (by decide) (by decide)]; exact hB k hk) (fun k hk => pk_un (by omega)) (fun S51 h51 B51 f51 => ?_))
    refine E_istore dX12_calm_54 (by decide) ?_
    refine E_iload dX12_calm_56 rfl ?_
    refine E_iload dX12_calm_58 rfl ?_
    refine E_icmp_le dX12_calm_60 (fun c60 => ?_) (fun c60 => ?_)
    · refine E_iload_n dX12_calm_68 rfl ?_
      refine E_istore_n dX12_calm_69 (by decide) ?_
      refine E_iload dX12_calm_70 rfl ?_
      refine E_iload dX12_calm_72 rfl ?_
      refine E_icmp_le dX12_calm_74 (fun _ => ?_) (fun c => absurd c60 c)
      refine E_iload dX12_calm_82 rfl ?_
      refine E_istore dX12_calm_84 (by decide) ?_
      refine E_iinc (v := 5) dX12_calm_86 rfl (by decide) (by decide) ?_
      refine E_goto dX12_calm_89 ?_
      exact E.loc (by exact ⟨rfl, rfl, rfl, rfl, rfl, rfl, trivial⟩) (ih S51 (i + 1) _ _ _ (by rw [hb5]; exact (nI_add (5 * (i + 1)) 5).trans (congrArg nI (by omega))) (by omega) (by rw [ca_keep (by rw [← hb5, ← hb4]; exact c60)]; exact hb3) (by rw [ca_keep (by rw [← hb5, ← hb4]; exact c60)]; exact hb4) h51 B51 (fun S9 a9 b9 => hq S9 a9 ((f48.mh.tr f51).tr b9)))
    · refine E_iload dX12_calm_63 rfl ?_
      refine E_goto dX12_calm_65 ?_
      refine E_istore_n dX12_calm_69 (by decide) ?_
      refine E_iload dX12_calm_70 rfl ?_
      refine E_iload dX12_calm_72 rfl ?_
      refine E_icmp_le dX12_calm_74 (fun c => absurd c c60) (fun _ => ?_)
      refine E_iload dX12_calm_77 rfl ?_
      refine E_goto dX12_calm_79 ?_
      refine E_istore dX12_calm_84 (by decide) ?_
      refine E_iinc (v := 5) dX12_calm_86 rfl (by decide) (by decide) ?_
      refine E_goto dX12_calm_89 ?_
      exact E.loc (by exact ⟨rfl, rfl, rfl, rfl, rfl, rfl, trivial⟩) (ih S51 (i + 1) _ _ _ (by rw [hb5]; exact (nI_add (5 * (i + 1)) 5).trans (congrArg nI (by omega))) (by omega) (by rw [ca_new (by rw [← hb5, ← hb4]; exact c60)]; exact hb5) (by rw [ca_new (by rw [← hb5, ← hb4]; exact c60), ← hb5]) h51 B51 (fun S9 a9 b9 => hq S9 a9 ((f48.mh.tr f51).tr b9)))
theorem s_X12_calm {Q : Int32 → HP → Prop} (hv : S 160 = v) (iv : IV v) {x z : Int32} (hq : ∀ S', S' 160 = v → MH S S' → Q (calmR v x z) (lay Θ S')) : C Θ (d + 7) 0 0 yX12_calm cX12_calm 7 (some .int) [.ref (tb Θ + 159), .int x, .int z] 183 (lay Θ S) (Qi Q) := by
  refine C_of rfl rfl (Nat.le_of_ble_eq_true rfl) ?_
  refine E_iload_n dX12_calm_0 rfl ?_
  refine E_ic (v := 1) dX12_calm_1 (by decide) ?_
  refine E_bipush (v := 60) dX12_calm_2 (by decide) ?_
  refine E_S3i sX12_81 dX12_calm_4 (Nat.le_of_ble_eq_true rfl) (s_X12_in (fun g1a g1b => ?_) (fun g1 => ?_))
  · refine E_if_eq dX12_calm_7 (fun c => absurd c (by decide)) (fun _ => ?_)
    refine E_iload_n dX12_calm_10 rfl ?_
    refine E_ic (v := 0) dX12_calm_11 (by decide) ?_
    refine E_ic (v := 1) dX12_calm_12 (by decide) ?_
    refine E_S3i sX12_81 dX12_calm_13 (Nat.le_of_ble_eq_true rfl) (s_X12_in (fun g2a g2b => ?_) (fun g2 => ?_))
    · refine E_if_ne dX12_calm_16 (fun _ => ?_) (fun c => absurd c (by decide))
      refine E_aload_n dX12_calm_22 rfl ?_
      refine E_V0v vX12_181_12 dX12_calm_23 (Nat.le_of_ble_eq_true rfl) (by decide) (sh_159 _) (s_X12_thinks hv (fun S23 h23 B23 f23 => ?_))
      refine E_ic (v := 0) dX12_calm_26 (by decide) ?_
      refine E_istore_n dX12_calm_27 (by decide) ?_
      refine E_ic (v := (-1)) dX12_calm_28 (by decide) ?_
      refine E_istore dX12_calm_29 (by decide) ?_
      refine E_ic (v := 5) dX12_calm_31 (by decide) ?_
      refine E_istore dX12_calm_32 (by decide) ?_
      obtain ⟨n, hn, en⟩ := isIx_le (n := 60) (by decide) (Int32.le_trans (by decide) g1a) g1b
      rw [calmR, if_pos ⟨g1a, g1b⟩, if_pos ⟨g2a, g2b⟩, en, nI_clamp (by omega)] at hq
      rw [en]
      exact E.loc (by exact ⟨rfl, rfl, rfl, rfl, rfl, rfl, trivial⟩) (l_X12_calm iv (by omega) 19 S23 0 5 0 (-1) rfl (by omega) rfl rfl h23 B23 (fun S9 a9 b9 => hq S9 a9 (f23.tr b9)))
    · refine E_if_ne dX12_calm_16 (fun c => absurd rfl c) (fun _ => ?_)
      refine E_ldc dX12_calm_19 kX12_107 ?_
      refine E_iret dX12_calm_21 rfl rfl ?_
      rw [calmR, if_pos ⟨g1a, g1b⟩, if_neg g2] at hq
      exact hq S hv MH.rf
  · refine E_if_eq dX12_calm_7 (fun _ => ?_) (fun c => absurd (by decide) c)
    refine E_ldc dX12_calm_19 kX12_107 ?_
    refine E_iret dX12_calm_21 rfl rfl ?_
    rw [calmR, if_neg g1] at hq
    exact hq S hv MH.rf
theorem l_X11_calm {Q : Int32 → HP → Prop} (iv : IV v) {m : Nat} (hm : v 1 = nI m) (hmm : mN v = m) (hm9 : m ≤ 9) {n : Nat} (hn : n ≤ 60) {z : Int32} : ∀ (f : Nat) (S : SS) (i : Nat) (b5 b3 b4 : Int32), b5 = nI (5 * (i + 1)) → i + f = 19 → b3 = (caF v n i).1 → b4 = (caF v n i).2 → WRep S 20 v → TRep S v → (∀ S', WF 64 S S' → Q (if z = 0 then (caF v n 19).1 else (caF v n 19).2) (lay Θ S')) → E Θ (d + 7) 0 0 yX11_calm cX11_calm 6 (some .int) 0 0 183 (lay Θ S) 30 [(5, .int b5), (4, .int b4), (3, .int b3), (2, .int z), (1, .int (nI n)), (0, .ref (tb Θ + 0))] [] (Qi Q) := by
  have hw : isW 64 := isW64
  intro f
  induction f with
  | zero =>
    intro S i b5 b3 b4 hb5 hi hb3 hb4 hR hT hq
    obtain rfl : i = 19 := by omega
    refine E_iload dX11_calm_30 rfl ?_
    refine E_bipush (v := 95) dX11_calm_32 (by decide) ?_
    refine E_icmp_gt dX11_calm_34 (fun _ => ?_) (fun c => absurd (by rw [hb5]; exact nI_lt (a := 95) (by omega) (by omega)) c)
    refine E_iload_n dX11_calm_99 rfl ?_
    refine E_if_ne dX11_calm_100 (fun c100 => ?_) (fun c100 => ?_)
    · refine E_iload dX11_calm_107 rfl ?_
      refine E_iret dX11_calm_109 rfl rfl ?_
      rw [if_neg c100] at hq
      rw [hb4]
      exact hq S WF.rf
    · refine E_iload_n dX11_calm_103 rfl ?_
      refine E_goto dX11_calm_104 ?_
      refine E_iret dX11_calm_109 rfl rfl ?_
      rw [if_pos c100] at hq
      rw [hb3]
      exact hq S WF.rf
  | succ f ih =>
    intro S i b5 b3 b4 hb5 hi hb3 hb4 hR hT hq
    refine E_iload dX11_calm_30 rfl ?_
    refine E_bipush (v := 95) dX11_calm_32 (by decide) ?_
    refine E_icmp_gt dX11_calm_34 (fun c => absurd c (by rw [hb5]; exact i_lt (nI_le (b := 95) (by omega) (by omega)))) (fun _ => ?_)
    refine E_aload_n dX11_calm_37 rfl ?_
    refine L_get fX11_90 dX11_calm_38 (by decide) sh_0 rfl ?_
    refine E_aload_n dX11_calm_41 rfl ?_
    refine L_get fX11_83 dX11_calm_42 (by decide) sh_0 rfl ?_
    refine E_V1v vX11_230_10 dX11_calm_45 (Nat.le_of_ble_eq_true rfl) (by have := (isW64).lt; omega) ((sh_W isW64) _) (s_X10_becomeAs isW64 isW20 (by decide) hR hmm hm9 hm (law_ix hR iv) (fun S45 h45 f45 => ?_))
    refine E_aload_n dX11_calm_48 rfl ?_
    refine L_get fX11_90 dX11_calm_49 (by decide) sh_0 rfl ?_
    refine E_iload dX11_calm_52 rfl ?_
    refine W_put (j := 8) (i := 4) h45 isW64 (by decide) fX11_157 dX11_calm_54 (fun S54 h54 f54 => ?_)
    refine E_aload_n dX11_calm_57 rfl ?_
    refine L_get fX11_90 dX11_calm_58 (by decide) sh_0 rfl ?_
    refine E_iload_n dX11_calm_61 rfl ?_
    have ivL : IV (upd v 4 b5) := by rw [hb5]; exact iv.lim (by omega) (by omega)
    refine E_V1v vX11_234_10 dX11_calm_62 (Nat.le_of_ble_eq_true rfl) (by have := (isW64).lt; omega) ((sh_W isW64) _) (s_X10_passMinutes isW64 h54 ivL ((hT.keep isW64 f45 eqHi.rf rfl (tN_le iv)).keep isW64 f54 (eqHi.rf.up (by decide)) (pk_un (by decide)) (tN_le iv)) (by omega) rfl (fun S62 h62 t62 f62 => ?_))
    refine E_aload_n dX11_calm_65 rfl ?_
    refine L_get fX11_90 dX11_calm_66 (by decide) sh_0 rfl ?_
    refine L_get fX11_205 dX11_calm_69 (by have := (isW64).lt; omega) (sh_W isW64) rfl ?_
    refine E_ic (v := 0) dX11_calm_72 (by decide) ?_
    refine T_get (j := 0) h62 isW64 dX11_calm_73 rfl (by decide) ?_
    refine E_iload dX11_calm_74 rfl ?_
    refine E_icmp_le dX11_calm_76 (fun c76 => ?_) (fun c76 => ?_)
    · refine E_iinc (v := 5) dX11_calm_93 rfl (by decide) (by decide) ?_
      refine E_goto dX11_calm_96 ?_
      exact E.loc (by exact ⟨rfl, rfl, rfl, rfl, rfl, rfl, trivial⟩) (ih S62 (i + 1) _ _ _ (by rw [hb5]; exact (nI_add (5 * (i + 1)) 5).trans (congrArg nI (by omega))) (by omega) (by rw [ca_keep (by rw [← hb5, ← hb4]; exact c76)]; exact hb3) (by rw [ca_keep (by rw [← hb5, ← hb4]; exact c76)]; exact hb4) (WRep.wf isW20 isW64 (by decide) hR (by omega) ((f45.tr f54).tr f62)) (hT.keep isW64 ((f45.tr f54).tr f62) eqHi.rf rfl (tN_le iv)) (fun S9 b9 => hq S9 (((f45.tr f54).tr f62).tr b9)))
    · refine E_aload_n dX11_calm_79 rfl ?_
      refine L_get fX11_90 dX11_calm_80 (by decide) sh_0 rfl ?_
      refine L_get fX11_205 dX11_calm_83 (by have := (isW64).lt; omega) (sh_W isW64) rfl ?_
      refine E_ic (v := 0) dX11_calm_86 (by decide) ?_
      refine T_get (j := 0) h62 isW64 dX11_calm_87 rfl (by decide) ?_
      refine E_istore dX11_calm_88 (by decide) ?_
      refine E_iload dX11_calm_90 rfl ?_
      refine E_istore_n dX11_calm_92 (by decide) ?_
      refine E_iinc (v := 5) dX11_calm_93 rfl (by decide) (by decide) ?_
      refine E_goto dX11_calm_96 ?_
      exact E.loc (by exact ⟨rfl, rfl, rfl, rfl, rfl, rfl, trivial⟩) (ih S62 (i + 1) _ _ _ (by rw [hb5]; exact (nI_add (5 * (i + 1)) 5).trans (congrArg nI (by omega))) (by omega) (by rw [ca_new (by rw [← hb5, ← hb4]; exact c76)]; exact hb5) (by rw [ca_new (by rw [← hb5, ← hb4]; exact c76), ← hb5]) (WRep.wf isW20 isW64 (by decide) hR (by omega) ((f45.tr f54).tr f62)) (hT.keep isW64 ((f45.tr f54).tr f62) eqHi.rf rfl (tN_le iv)) (fun S9 b9 => hq S9 (((f45.tr f54).tr f62).tr b9)))
theorem s_X11_calm {Q : Int32 → HP → Prop} (hR : WRep S 20 v) (iv : IV v) (hT : TRep S v) {x z : Int32} (hq : ∀ S', WF 64 S S' → Q (calmR v x z) (lay Θ S')) : C Θ (d + 7) 0 0 yX11_calm cX11_calm 6 (some .int) [.ref (tb Θ + 0), .int x, .int z] 183 (lay Θ S) (Qi Q) := by
  refine C_of rfl rfl (Nat.le_of_ble_eq_true rfl) ?_
  obtain ⟨m, hm9, hm, hpa⟩ := iv.1
  have hmm : mN v = m := by rw [mN, hm, nI_clamp (by omega)]
  refine E_iload_n dX11_calm_0 rfl ?_
  refine E_ic (v := 1) dX11_calm_1 (by decide) ?_
  refine E_bipush (v := 60) dX11_calm_2 (by decide) ?_
  refine E_S3i sX11_145 dX11_calm_4 (Nat.le_of_ble_eq_true rfl) (s_X11_within (fun g1a g1b => ?_) (fun g1 => ?_))
  · refine E_if_eq dX11_calm_7 (fun c => absurd c (by decide)) (fun _ => ?_)
    refine E_iload_n dX11_calm_10 rfl ?_
    refine E_ic (v := 0) dX11_calm_11 (by decide) ?_
    refine E_ic (v := 1) dX11_calm_12 (by decide) ?_
    refine E_S3i sX11_145 dX11_calm_13 (Nat.le_of_ble_eq_true rfl) (s_X11_within (fun g2a g2b => ?_) (fun g2 => ?_))
    · refine E_if_ne dX11_calm_16 (fun _ => ?_) (fun c => absurd c (by decide))
      refine E_ic (v := 0) dX11_calm_22 (by decide) ?_
      refine E_istore_n dX11_calm_23 (by decide) ?_
      refine E_ic (v := (-1)) dX11_calm_24 (by decide) ?_
      refine E_istore dX11_calm_25 (by decide) ?_
      refine E_ic (v := 5) dX11_calm_27 (by decide) ?_
      refine E_istore dX11_calm_28 (by decide) ?_
      obtain ⟨n, hn, en⟩ := isIx_le (n := 60) (by decide) (Int32.le_trans (by decide) g1a) g1b
      rw [calmR, if_pos ⟨g1a, g1b⟩, if_pos ⟨g2a, g2b⟩, en, nI_clamp (by omega)] at hq
      rw [en]
      exact E.loc (by exact ⟨rfl, rfl, rfl, rfl, rfl, rfl, trivial⟩) (l_X11_calm iv hm hmm hm9 (by omega) 19 S 0 5 0 (-1) rfl (by omega) rfl rfl hR hT hq)
    · refine E_if_ne dX11_calm_16 (fun c => absurd rfl c) (fun _ => ?_)
      refine E_ldc dX11_calm_19 kX11_105 ?_
      refine E_iret dX11_calm_21 rfl rfl ?_
      rw [calmR, if_pos ⟨g1a, g1b⟩, if_neg g2] at hq
      exact hq S WF.rf
  · refine E_if_eq dX11_calm_7 (fun _ => ?_) (fun c => absurd (by decide) c)
    refine E_ldc dX11_calm_19 kX11_105 ?_
    refine E_iret dX11_calm_21 rfl rfl ?_
    rw [calmR, if_neg g1] at hq
    exact hq S WF.rf
end Ca
