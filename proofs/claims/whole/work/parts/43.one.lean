/-! one more, and deal -/
def coV (v : WV) (c b : Int32) : WV := fun k => if k = 1 then v 1 + 1 else if 15 + 9 * mN v ≤ k ∧ k < 24 + 9 * mN v then (if k = 15 + 9 * mN v then c else if k = 16 + 9 * mN v then b else 0) else v k
def zrV (u : WV) (a i : Nat) : WV := fun k => if a ≤ k ∧ k < a + i then 0 else u k
theorem zr_0 {u : WV} {a : Nat} : zrV u a 0 = u := by
  funext k
  exact if_neg (by omega)
theorem zr_step {u : WV} {a i : Nat} : upd (zrV u a i) (a + i) 0 = zrV u a (i + 1) := by
  funext k
  by_cases e : k = a + i
  · subst e
    rw [pk_us]
    exact (if_pos (by omega)).symm
  · rw [pk_un e]
    by_cases h : a ≤ k ∧ k < a + i
    · exact (if_pos h).trans (if_pos (by omega)).symm
    · exact (if_neg h).trans (if_neg (by omega)).symm
theorem co_eq {v : WV} {m : Nat} {c b : Int32} (hmm : mN v = m) : upd (upd (zrV (upd v 1 (v 1 + 1)) (15 + 9 * m) 9) (15 + 9 * m) c) (16 + 9 * m) b = coV v c b := by
  subst hmm
  funext k
  unfold coV
  by_cases h1 : k = 1
  · subst h1
    rw [pk_un (by omega), pk_un (by omega), if_pos rfl]
    exact (if_neg (by omega)).trans pk_us
  · rw [if_neg h1]
    by_cases h2 : k = 16 + 9 * mN v
    · rw [h2, pk_us, if_pos (by omega), if_neg (by omega), if_pos rfl]
    · rw [pk_un h2]
      by_cases h3 : k = 15 + 9 * mN v
      · rw [h3, pk_us, if_pos (by omega), if_pos rfl]
      · rw [pk_un h3]
        by_cases h4 : 15 + 9 * mN v ≤ k ∧ k < 24 + 9 * mN v
        · rw [if_pos h4, if_neg h3, if_neg h2]
          exact if_pos (by omega)
        · rw [if_neg h4]
          exact (if_neg (by omega)).trans (pk_un h1)
theorem co_un {v : WV} {m k : Nat} {c b : Int32} (hmm : mN v = m) (h1 : k ≠ 1) (h : ¬ (15 + 9 * m ≤ k ∧ k < 24 + 9 * m)) : coV v c b k = v k := by
  subst hmm
  unfold coV
  rw [if_neg h1, if_neg h]
theorem co_1 {v : WV} {m : Nat} {c b : Int32} (hm : v 1 = nI m) : coV v c b 1 = nI (m + 1) := by
  unfold coV
  rw [if_pos rfl, hm, nI_1]
theorem co_k {v : WV} {m : Nat} {c b : Int32} (hmm : mN v = m) : coV v c b (15 + 9 * m) = c := by
  subst hmm
  unfold coV
  rw [if_neg (by omega), if_pos (by omega), if_pos rfl]
theorem co_b {v : WV} {m : Nat} {c b : Int32} (hmm : mN v = m) : coV v c b (16 + 9 * m) = b := by
  subst hmm
  unfold coV
  rw [if_neg (by omega), if_pos (by omega), if_neg (by omega), if_pos rfl]
theorem co_z {v : WV} {m k : Nat} {c b : Int32} (hmm : mN v = m) (h1 : 17 + 9 * m ≤ k) (h2 : k < 24 + 9 * m) : coV v c b k = 0 := by
  subst hmm
  unfold coV
  rw [if_neg (by omega), if_pos (by omega), if_neg (by omega), if_neg (by omega)]
theorem co_m {v : WV} {m : Nat} {c b : Int32} (hm : v 1 = nI m) (hm9 : m < 9) : mN (coV v c b) = m + 1 := by rw [mN, co_1 hm, nI_clamp (by omega)]
theorem IC.come {v : WV} {m c b : Nat} (h : IC v m) (hmm : mN v = m) (hm9 : m < 9) (hc : c < 6) (hb : b < 3) : IC (coV v (nI c) (nI b)) (m + 1) := by
  obtain ⟨⟨a1, a2, a3⟩, ⟨e, b1, b2⟩, ⟨x, c1, c2⟩, ⟨l, l0, l1, l2⟩, t, t1, t2, t3⟩ := h
  refine ⟨⟨by omega, co_1 a2, fun p hp => ?_⟩, ⟨e, b1, (co_un hmm (by omega) (by omega)).trans b2⟩, ⟨x, c1, (co_un hmm (by omega) (by omega)).trans c2⟩, ⟨l, l0, l1, (co_un hmm (by omega) (by omega)).trans l2⟩, t, t1, (co_un hmm (by omega) (by omega)).trans t2, fun i hi => (t3 i hi).hi (fun k hk => co_un hmm (by omega) (by omega))⟩
  by_cases e : p = m
  · subst e
    exact ⟨⟨c, hc, co_k hmm⟩, ⟨0, by omega, co_z hmm (by omega) (by omega)⟩, ⟨b, hb, co_b hmm⟩, fun j hj => ⟨3, by omega, (co_z hmm (by omega) (by omega)).trans (by decide)⟩⟩
  · exact (a3 p (by omega)).congr (fun k _ _ => co_un hmm (by omega) (by omega))
theorem IWy.more {v u : WV} {m : Nat} (h : IWy v m) (e6 : u 6 = v 6) (e7 : u 7 = v 7) (e8 : u 8 = v 8) (e9 : u 9 = v 9) : IWy u (m + 1) := by
  obtain ⟨w, h1, h2, h3⟩ := h
  refine ⟨w, h1, e6.trans h2, fun h0 => ?_⟩
  obtain ⟨p, o, j, a1, a2, a3, a4, a5, a6⟩ := h3 h0
  exact ⟨p, o, j, a1, by omega, a3, e7.trans a4, e8.trans a5, e9.trans a6⟩
theorem IV.m {v : WV} {m : Nat} (h : IV v) (hmm : mN v = m) : IC v m ∧ IWy v m := by
  obtain ⟨m', hI, hW⟩ := IV_iff.mp h
  have hm9 := hI.1.1
  have e : m = m' := by rw [← hmm, mN, hI.1.2.1, nI_clamp (by omega)]
  subst e
  exact ⟨hI, hW⟩
theorem IV.come {v : WV} {m c b : Nat} (h : IV v) (hmm : mN v = m) (hm9 : m < 9) (hc : c < 6) (hb : b < 3) : IV (coV v (nI c) (nI b)) := by
  obtain ⟨hI, hW⟩ := h.m hmm
  exact IV_iff.mpr ⟨m + 1, hI.come hmm hm9 hc hb, hW.more (co_un hmm (by omega) (by omega)) (co_un hmm (by omega) (by omega)) (co_un hmm (by omega) (by omega)) (co_un hmm (by omega) (by omega))⟩
theorem WRep.more {S S' : SS} {w m : Nat} {v u : WV} (hR : WRep S w v) (hmm : mN v = m) (hmu : u 1 = nI (m + 1)) (hm9 : m < 9) (hw1 : S' w 1 = u 1) (hw11 : S' w 11 = u 0) (hwo : ∀ j, j ≠ 1 → j ≠ 11 → S' w j = S w j) (huo : ∀ k, k ≠ 0 → k ≠ 1 → ¬ (15 + 9 * m ≤ k ∧ k < 24 + 9 * m) → u k = v k) (hp : WPas S' (w + 4 + 2 * m) u m) (hf : ∀ k, w < k → k < w + 22 → k ≠ w + 4 + 2 * m → k ≠ w + 4 + 2 * m + 1 → S' k = S k) : WRep S' w u := by
  obtain ⟨h1, h2, h3, h4⟩ := hR
  have hmu' : mN u = m + 1 := by rw [mN, hmu, nI_clamp (by omega)]
  refine ⟨fun q hq => ?_, fun j hj => ?_, fun c hc => ?_, fun p hp' => ?_⟩
  · have hh := h1 q hq
    have hl := wm_hi q hq
    by_cases e1 : q.1 = 1
    · have e2 := (wm_inj q hq (1, 1) (by decide)).mp e1
      rw [e1, hw1]
      exact (congrArg u e2).symm
    · by_cases e11 : q.1 = 11
      · have e2 := (wm_inj q hq (11, 0) (by decide)).mp e11
        rw [e11, hw11]
        exact (congrArg u e2).symm
      · rw [hwo q.1 e1 e11, hh, huo q.2 (fun z => e11 ((wm_inj q hq (11, 0) (by decide)).mpr z)) (fun z => e1 ((wm_inj q hq (1, 1) (by decide)).mpr z)) (by omega)]
  · rw [hf _ (by omega) (by omega) (by omega) (by omega), huo _ (by omega) (by omega) (by omega)]
    exact h2 j hj
  · rw [hf _ (by omega) (by omega) (by omega) (by omega), h3 c hc, lawF, lawF, tN, tN, huo 14 (by omega) (by omega) (by omega)]
    exact (cnt_congr _ (fun i _ => huo _ (by omega) (by omega) (by omega))).symm
  · rw [hmu'] at hp'
    by_cases e : p = m
    · subst e
      exact hp
    · obtain ⟨b1, b2, b3, b4⟩ := h4 p (by omega)
      refine ⟨?_, ?_, ?_, fun j hj => ?_⟩
      · rw [hf _ (by omega) (by omega) (by omega) (by omega), huo _ (by omega) (by omega) (by omega)]; exact b1
      · rw [hf _ (by omega) (by omega) (by omega) (by omega), huo _ (by omega) (by omega) (by omega)]; exact b2
      · rw [hf _ (by omega) (by omega) (by omega) (by omega), huo _ (by omega) (by omega) (by omega)]; exact b3
      · rw [hf _ (by omega) (by omega) (by omega) (by omega), huo _ (by omega) (by omega) (by omega)]; exact b4 j hj
def oneR (v : WV) (x z : Int32) : Int32 × WV := (ix x 6).elim (bad, v) fun _ => (ix z 2).elim (bad, v) fun _ => if mN v = 9 then (fullC, v) else (nI (mN v), coV v x z)
section On
variable {Θ : Th} {d : Nat} {S : SS} {v : WV}
theorem l_X12_comes {Q : Int32 → HP → Prop} {m : Nat} (hm9 : m < 9) {x y : Int32} {u : WV} : ∀ (f : Nat) (S : SS) (x4 : Int32) (i : Nat), x4 = nI i → i + f = 9 → S 160 = zrV u (15 + 9 * m) i → (∀ S', S' 160 = zrV u (15 + 9 * m) 9 → MF S S' → ∀ x4, E Θ (d + 1) 0 0 yX12_comes cX12_comes 5 (some .int) 0 0 183 (lay Θ S') 41 [(4, .int x4), (3, .int (nI m)), (2, .int y), (1, .int x), (0, .ref (tb Θ + 159))] [] (Qi Q)) → E Θ (d + 1) 0 0 yX12_comes cX12_comes 5 (some .int) 0 0 183 (lay Θ S) 20 [(4, .int x4), (3, .int (nI m)), (2, .int y), (1, .int x), (0, .ref (tb Θ + 159))] [] (Qi Q) := by
  intro f
  induction f with
  | zero =>
    intro S x4 i hx4 hi hv K
    refine E_iload dX12_comes_20 rfl ?_
    refine E_bipush (v := 9) dX12_comes_22 (by decide) ?_
    refine E_icmp_ge dX12_comes_24 (fun _ => ?_) (fun c => absurd (by rw [hx4]; exact nI_le (a := 9) (by omega) (by omega)) c)
    obtain rfl : i = 9 := by omega
    exact E.loc (by exact ⟨rfl, rfl, rfl, rfl, rfl, trivial⟩) (K S hv MF.rf x4)
  | succ f ih =>
    intro S x4 i hx4 hi hv K
    refine E_iload dX12_comes_20 rfl ?_
    refine E_bipush (v := 9) dX12_comes_22 (by decide) ?_
    refine E_icmp_ge dX12_comes_24 (fun c => absurd c (fun c => absurd ((nI_leI (a := 9) (by omega) (by omega)).mp (hx4 ▸ c)) (by omega))) (fun _ => ?_)
    refine E_aload_n dX12_comes_27 rfl ?_
    refine E_iload_n dX12_comes_28 rfl ?_
    refine E_iload dX12_comes_29 rfl ?_
    refine E_ic (v := 0) dX12_comes_31 (by decide) ?_
    refine E_V3v vX12_103_12 dX12_comes_32 (Nat.le_of_ble_eq_true rfl) (by decide) (sh_159 _) (s_X12_put hv m i (15 + 9 * m + i) rfl hx4 (by omega) (by omega) (fun S32 h32 f32 => ?_))
    refine E_iinc (v := 1) dX12_comes_35 rfl (by decide) (by decide) ?_
    refine E_goto dX12_comes_38 ?_
    exact E.loc (by exact ⟨rfl, rfl, rfl, rfl, rfl, trivial⟩) (ih S32 _ (i + 1) (by rw [hx4, nI_1]) (by omega) (h32.trans zr_step) (fun S9 a9 b9 => K S9 a9 (f32.tr b9)))
theorem s_X12_comes {Q : Int32 → HP → Prop} (hv : S 160 = v) {m : Nat} (hm : v 1 = nI m) (hmm : mN v = m) (hm9 : m < 9) {x y : Int32} (hq : ∀ S', S' 160 = coV v x y → MF S S' → Q (nI m) (lay Θ S')) : C Θ (d + 1) 0 0 yX12_comes cX12_comes 5 (some .int) [.ref (tb Θ + 159), .int x, .int y] 183 (lay Θ S) (Qi Q) := by
  refine C_of rfl rfl (Nat.le_of_ble_eq_true rfl) ?_
  refine E_aload_n dX12_comes_0 rfl ?_
  refine L_get fX12_9 dX12_comes_1 (by decide) sh_159 rfl ?_
  refine E_ic (v := 1) dX12_comes_4 (by decide) ?_
  refine N_iald (j := 1) dX12_comes_5 rfl (by decide) hv ?_
  rw [hm]
  refine E_istore_n dX12_comes_6 (by decide) ?_
  refine E_aload_n dX12_comes_7 rfl ?_
  refine L_get fX12_9 dX12_comes_8 (by decide) sh_159 rfl ?_
  refine E_ic (v := 1) dX12_comes_11 (by decide) ?_
  refine E_dup2 dX12_comes_12 rfl rfl ?_
  refine N_iald (j := 1) dX12_comes_13 rfl (by decide) hv ?_
  refine E_ic (v := 1) dX12_comes_14 (by decide) ?_
  refine E_iadd dX12_comes_15 ?_
  refine N_iast (j := 1) dX12_comes_16 rfl (by decide) hv (fun S16 h16 f16 => ?_)
  refine E_ic (v := 0) dX12_comes_17 (by decide) ?_
  refine E_istore dX12_comes_18 (by decide) ?_
  refine E.loc (ls' := [(4, .int 0), (3, .int (nI m)), (2, .int y), (1, .int x), (0, .ref (tb Θ + 159))]) (by exact ⟨rfl, rfl, rfl, rfl, rfl, trivial⟩) (l_X12_comes hm9 (u := upd v 1 (v 1 + 1)) 9 S16 0 0 rfl (by omega) (h16.trans zr_0.symm) (fun S9 h9 f9 x4 => ?_))
  refine E_aload_n dX12_comes_41 rfl ?_
  refine E_iload_n dX12_comes_42 rfl ?_
  refine E_ic (v := 0) dX12_comes_43 (by decide) ?_
  refine E_iload_n dX12_comes_44 rfl ?_
  refine E_V3v vX12_103_12 dX12_comes_45 (Nat.le_of_ble_eq_true rfl) (by decide) (sh_159 _) (s_X12_put h9 m 0 (15 + 9 * m) rfl rfl (by omega) rfl (fun S45 h45 f45 => ?_))
  refine E_aload_n dX12_comes_48 rfl ?_
  refine E_iload_n dX12_comes_49 rfl ?_
  refine E_ic (v := 1) dX12_comes_50 (by decide) ?_
  refine E_iload_n dX12_comes_51 rfl ?_
  refine E_V3v vX12_103_12 dX12_comes_52 (Nat.le_of_ble_eq_true rfl) (by decide) (sh_159 _) (s_X12_put h45 m 1 (16 + 9 * m) rfl rfl (by omega) (by omega) (fun S52 h52 f52 => ?_))
  refine E_iload_n dX12_comes_55 rfl ?_
  refine E_iret dX12_comes_56 rfl rfl ?_
  exact hq S52 (h52.trans (co_eq hmm)) (((f16.tr f9).tr f45).tr f52)
theorem s_X12_one {Q : Int32 → HP → Prop} (hv : S 160 = v) {m : Nat} (hm : v 1 = nI m) (hmm : mN v = m) (hm9 : m ≤ 9) {x z : Int32} (hq : ∀ S', S' 160 = (oneR v x z).2 → MF S S' → Q (oneR v x z).1 (lay Θ S')) : C Θ (d + 2) 0 0 yX12_one cX12_one 3 (some .int) [.ref (tb Θ + 159), .int x, .int z] 183 (lay Θ S) (Qi Q) := by
  refine C_of rfl rfl (Nat.le_of_ble_eq_true rfl) ?_
  refine E_iload_n dX12_one_0 rfl ?_
  refine E_ic (v := 0) dX12_one_1 (by decide) ?_
  refine E_ic (v := 5) dX12_one_2 (by decide) ?_
  refine E_S3i sX12_81 dX12_one_3 (Nat.le_of_ble_eq_true rfl) (s_X12_in (fun g2a g2b => ?_) (fun g2 => ?_))
  · obtain ⟨k, hk6, ek, ik⟩ := ix_some (by omega) (isIx_le (n := 5) (by decide) g2a g2b)
    refine E_if_eq dX12_one_6 (fun c => absurd c (by decide)) (fun _ => ?_)
    refine E_iload_n dX12_one_9 rfl ?_
    refine E_ic (v := 0) dX12_one_10 (by decide) ?_
    refine E_ic (v := 1) dX12_one_11 (by decide) ?_
    refine E_S3i sX12_81 dX12_one_12 (Nat.le_of_ble_eq_true rfl) (s_X12_in (fun g3a g3b => ?_) (fun g3 => ?_))
    · obtain ⟨b, hb2, eb, ib⟩ := ix_some (by omega) (isIx_le (n := 1) (by decide) g3a g3b)
      refine E_if_ne dX12_one_15 (fun _ => ?_) (fun c => absurd c (by decide))
      refine E_aload_n dX12_one_21 rfl ?_
      refine L_get fX12_9 dX12_one_22 (by decide) sh_159 rfl ?_
      refine E_ic (v := 1) dX12_one_25 (by decide) ?_
      refine N_iald (j := 1) dX12_one_26 rfl (by decide) hv ?_
      refine E_bipush (v := 9) dX12_one_27 (by decide) ?_
      refine E_icmp_ne dX12_one_29 (fun c29 => ?_) (fun c29 => ?_)
      · refine E_aload_n dX12_one_37 rfl ?_
        refine E_iload_n dX12_one_38 rfl ?_
        refine E_iload_n dX12_one_39 rfl ?_
        have n9 : ¬ m = 9 := fun e => c29 (by rw [hm, e]; rfl)
        refine E_V2i vX12_109_12 dX12_one_40 (Nat.le_of_ble_eq_true rfl) (by decide) (sh_159 _) (s_X12_comes hv hm hmm (by omega) (fun S40 h40 f40 => ?_))
        refine E_iret dX12_one_43 rfl rfl ?_
        rw [oneR, ik, Option.elim, ib, Option.elim, if_neg (show ¬ mN v = 9 by rw [hmm]; exact n9), hmm] at hq
        exact hq S40 h40 f40
      · refine E_ldc dX12_one_32 kX12_108 ?_
        refine E_goto dX12_one_34 ?_
        refine E_iret dX12_one_43 rfl rfl ?_
        rw [oneR, ik, Option.elim, ib, Option.elim, if_pos (show mN v = 9 by rw [hmm]; exact nI_inj (by omega) (by omega) (hm.symm.trans c29))] at hq
        exact hq S hv MF.rf
    · have ib := ix_none (n := 2) (by omega) (fun hh => g3 (isIx_back (n := 1) (by decide) hh))
      refine E_if_ne dX12_one_15 (fun c => absurd rfl c) (fun _ => ?_)
      refine E_ldc dX12_one_18 kX12_107 ?_
      refine E_iret dX12_one_20 rfl rfl ?_
      rw [oneR, ik, Option.elim, ib] at hq
      exact hq S hv MF.rf
  · have ik := ix_none (n := 6) (by omega) (fun hh => g2 (isIx_back (n := 5) (by decide) hh))
    refine E_if_eq dX12_one_6 (fun _ => ?_) (fun c => absurd (by decide) c)
    refine E_ldc dX12_one_18 kX12_107 ?_
    refine E_iret dX12_one_20 rfl rfl ?_
    rw [oneR, ik] at hq
    exact hq S hv MF.rf
theorem s_X11_one {Q : Int32 → HP → Prop} (hR : WRep S 20 v) {m : Nat} (hm : v 1 = nI m) (hmm : mN v = m) (hm9 : m ≤ 9) {x z : Int32} (hq : ∀ S', WRep S' 20 (oneR v x z).2 → WF 20 S S' → Q (oneR v x z).1 (lay Θ S')) : C Θ (d + 2) 0 0 yX11_one cX11_one 3 (some .int) [.ref (tb Θ + 0), .int x, .int z] 183 (lay Θ S) (Qi Q) := by
  refine C_of rfl rfl (Nat.le_of_ble_eq_true rfl) ?_
  have hw : isW 20 := isW20
  have hm1 : S 20 1 = nI m := (hR.1 (1, 1) (by decide)).trans hm
  refine E_iload_n dX11_one_0 rfl ?_
  refine E_S1i sX11_98 dX11_one_1 (Nat.le_of_ble_eq_true rfl) (s_X11_isKind (fun g2 => ?_) (fun g2 => ?_))
  · obtain ⟨k, hk, ek, ik⟩ := ix_some (by omega) g2
    refine E_if_eq dX11_one_4 (fun c => absurd c (by decide)) (fun _ => ?_)
    refine E_iload_n dX11_one_7 rfl ?_
    refine E_S1i sX11_102 dX11_one_8 (Nat.le_of_ble_eq_true rfl) (s_X11_isBank (fun g3 => ?_) (fun g3 => ?_))
    · obtain ⟨b, hb, eb, ib⟩ := ix_some (by omega) g3
      refine E_if_ne dX11_one_11 (fun _ => ?_) (fun c => absurd c (by decide))
      refine E_aload_n dX11_one_17 rfl ?_
      refine L_get fX11_83 dX11_one_18 (by decide) sh_0 rfl ?_
      refine W_get (j := 1) (i := 1) hR hw (by decide) fX11_106 dX11_one_21 ?_
      refine E_bipush (v := 9) dX11_one_24 (by decide) ?_
      refine E_icmp_lt dX11_one_26 (fun c26 => ?_) (fun c26 => ?_)
      · have n9 : m < 9 := (nI_ltI (b := 9) (by omega) (by omega)).mp (hm ▸ c26)
        refine E_aload_n dX11_one_32 rfl ?_
        refine L_get fX11_83 dX11_one_33 (by decide) sh_0 rfl ?_
        refine L_get fX11_111 dX11_one_36 (by have := (isW20).lt; omega) (sh_W isW20) rfl ?_
        refine E_aload_n dX11_one_39 rfl ?_
        refine L_get fX11_83 dX11_one_40 (by decide) sh_0 rfl ?_
        refine W_get (j := 1) (i := 1) hR hw (by decide) fX11_106 dX11_one_43 ?_
        refine L_aald (j := m) dX11_one_46 (by have := (isW20).lt; omega) (sh_Wc isW20) rfl hm (by omega) (by decide) (if_pos (by omega)) ?_
        refine E_aload_n dX11_one_47 rfl ?_
        refine L_get fX11_11 dX11_one_48 (by decide) sh_0 rfl ?_
        refine E_iload_n dX11_one_51 rfl ?_
        refine L_aald (j := k) dX11_one_52 (by decide) sh_1 rfl ek hk (by decide) (if_pos hk) ?_
        refine E_iload_n dX11_one_53 rfl ?_
        refine E_V2v vX11_114_4 dX11_one_54 (Nat.le_of_ble_eq_true rfl) (by have := ((isW20.p (i := m) (by omega))).lt; omega) ((sh_P (isW20.p (i := m) (by omega))) _) (s_X4_begin (isW20.p (i := m) (by omega)) hk (fun S54 a54 b54 c54 e54 f54 => ?_))
        refine E_aload_n dX11_one_57 rfl ?_
        refine L_get fX11_83 dX11_one_58 (by decide) sh_0 rfl ?_
        refine E_dup dX11_one_61 rfl ?_
        refine L_get fX11_106 dX11_one_62 (by have := (isW20).lt; omega) (sh_W isW20) rfl ?_
        refine E_ic (v := 1) dX11_one_65 (by decide) ?_
        refine E_iadd dX11_one_66 ?_
        refine L_puti fX11_106 dX11_one_67 (by have := (isW20).lt; omega) (sh_W isW20) (Nat.le_of_ble_eq_true rfl) rfl ?_
        refine E_aload_n dX11_one_70 rfl ?_
        refine L_get fX11_83 dX11_one_71 (by decide) sh_0 rfl ?_
        refine L_get fX11_106 dX11_one_74 (by have := (isW20).lt; omega) (sh_W isW20) rfl ?_
        refine E_ic (v := 1) dX11_one_77 (by decide) ?_
        refine E_isub dX11_one_78 ?_
        refine E_iret dX11_one_79 rfl rfl ?_
        have e1 : S54 20 1 = nI m := by rw [f54 20 (by omega) (by omega)]; exact hm1
        rw [oneR, ik, Option.elim, ib, Option.elim, if_neg (show ¬ mN v = 9 by rw [hmm]; omega), hmm] at hq
        rw [wr_at, pk_us, e1, nI_1, nI_pred]
        refine hq _ (hR.more (u := coV v x z) hmm (co_1 hm) (by omega) ?_ ?_ (fun j h1 h2 => ?_) (fun k h0 h1 hr => co_un hmm h1 hr) ⟨?_, ?_, ?_, fun j hj => ?_⟩ (fun k h1 h2 h3 h4 => ?_)) (fun k h1 _ => ?_)
        · rw [wr_at, pk_us, co_1 hm]
        · rw [wr_at, pk_un (by decide), f54 20 (by omega) (by omega), co_un hmm (by omega) (by omega)]
          exact hR.1 (11, 0) (by decide)
        · rw [wr_at, pk_un h1, f54 20 (by omega) (by omega)]
        · rw [wr_ne (by omega), a54, co_k hmm, ek]
        · rw [wr_ne (by omega), b54, co_b hmm]
        · rw [wr_ne (by omega), c54, co_z hmm (by omega) (by omega)]
        · rw [wr_ne (by omega), e54 j hj, co_z hmm (by omega) (by omega)]
        · rw [wr_ne (by omega), f54 k h3 h4]
        · rw [wr_ne (by omega), f54 k (by omega) (by omega)]
      · refine E_ldc dX11_one_29 kX11_110 ?_
        refine E_iret dX11_one_31 rfl rfl ?_
        rw [oneR, ik, Option.elim, ib, Option.elim, if_pos (show mN v = 9 by rw [hmm]; have : ¬ m < 9 := (fun h => c26 (by rw [hm]; exact nI_lt (b := 9) h (by omega))); omega)] at hq
        exact hq S hR WF.rf
    · have ib := ix_none (by omega) g3
      refine E_if_ne dX11_one_11 (fun c => absurd rfl c) (fun _ => ?_)
      refine E_ldc dX11_one_14 kX11_105 ?_
      refine E_iret dX11_one_16 rfl rfl ?_
      rw [oneR, ik, Option.elim, ib] at hq
      exact hq S hR WF.rf
  · have ik := ix_none (by omega) g2
    refine E_if_eq dX11_one_4 (fun _ => ?_) (fun c => absurd (by decide) c)
    refine E_ldc dX11_one_14 kX11_105 ?_
    refine E_iret dX11_one_16 rfl rfl ?_
    rw [oneR, ik] at hq
    exact hq S hR WF.rf
end On
