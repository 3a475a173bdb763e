/-! deal, on both sides -/
def rem7 (x : Int32) : Int32 := x - x / 7 * 7
def rem2 (x : Int32) : Int32 := x - x / 2 * 2
theorem rem7_ix (v : WV) : ∃ j, j < 7 ∧ rem7 (drawR v) = nI j := by
  obtain ⟨k, hk, e⟩ := ushr8 (drawN v)
  refine ⟨k % 7, by omega, ?_⟩
  rw [rem7, drawR, e]
  exact pk_rem (d := 7) (by omega) (by omega) (by omega)
theorem rem2_ix (v : WV) : ∃ j, j < 2 ∧ rem2 (drawR v) = nI j := by
  obtain ⟨k, hk, e⟩ := ushr8 (drawN v)
  refine ⟨k % 2, by omega, ?_⟩
  rw [rem2, drawR, e]
  exact pk_rem (d := 2) (by omega) (by omega) (by omega)
def dvV (u : WV) (m : Nat) : Nat → WV
  | 0 => u
  | j + 1 => upd (drawV (dvV u m j)) (18 + 9 * m + j) (rem7 (drawR (dvV u m j)) - 3)
def dcV (v : WV) : WV := coV (drawV (drawV v)) (rem6 (drawR v)) (rem2 (drawR (drawV v)))
def dlV (v : WV) : WV := dvV (dcV v) (mN v) 6
def dlN (v : WV) : Nat → WV
  | 0 => v
  | n + 1 => dlN (dlV v) n
theorem mN_draw {v : WV} : mN (drawV v) = mN v := mN_upd (by omega)
theorem dv_un {u : WV} {m k : Nat} (h0 : k ≠ 0) (h : ¬ (18 + 9 * m ≤ k ∧ k < 24 + 9 * m)) : ∀ j, j ≤ 6 → dvV u m j k = u k
  | 0, _ => rfl
  | j + 1, hj => by rw [dvV, pk_un (by omega), drawV, pk_un h0, dv_un h0 h j (by omega)]
theorem dc_un {v : WV} {m k : Nat} (hmm : mN v = m) (h0 : k ≠ 0) (h1 : k ≠ 1) (h : ¬ (15 + 9 * m ≤ k ∧ k < 24 + 9 * m)) : dcV v k = v k := by
  rw [dcV, co_un (mN_draw.trans (mN_draw.trans hmm)) h1 h, drawV, pk_un h0, drawV, pk_un h0]
theorem dl_un {v : WV} {m k : Nat} (hmm : mN v = m) (h0 : k ≠ 0) (h1 : k ≠ 1) (h : ¬ (15 + 9 * m ≤ k ∧ k < 24 + 9 * m)) : dlV v k = v k := by
  rw [dlV, hmm, dv_un h0 (by omega) 6 (by omega), dc_un hmm h0 h1 h]
theorem dd_1 {v : WV} : drawV (drawV v) 1 = v 1 := by rw [drawV, pk_un (by omega), drawV, pk_un (by omega)]
theorem dc_1 {v : WV} {m : Nat} (hm : v 1 = nI m) : dcV v 1 = nI (m + 1) := co_1 (dd_1.trans hm)
theorem dl_1 {v : WV} {m : Nat} (hmm : mN v = m) (hm : v 1 = nI m) : dlV v 1 = nI (m + 1) := by
  rw [dlV, hmm, dv_un (by omega) (by omega) 6 (by omega)]
  exact dc_1 hm
theorem dl_m {v : WV} {m : Nat} (hmm : mN v = m) (hm : v 1 = nI m) (hm9 : m < 9) : mN (dlV v) = m + 1 := by rw [mN, dl_1 hmm hm, nI_clamp (by omega)]
theorem IC.dv {u : WV} {m : Nat} (h : IC u (m + 1)) : ∀ j, j ≤ 6 → IC (dvV u m j) (m + 1)
  | 0, _ => h
  | j + 1, hj => by
    obtain ⟨q, hq, e⟩ := rem7_ix (dvV u m j)
    rw [dvV, e]
    exact (IC.dv h j (by omega)).draw.view (by omega) (by omega) hq
theorem IV.dl {v : WV} {m : Nat} (h : IV v) (hmm : mN v = m) (hm9 : m < 9) : IV (dlV v) := by
  obtain ⟨hI, hW⟩ := h.m hmm
  obtain ⟨c, hc, ec⟩ := rem6_ix v
  obtain ⟨b, hb, eb⟩ := rem2_ix (drawV v)
  refine IV_iff.mpr ⟨m + 1, ?_, hW.more (dl_un hmm (by omega) (by omega) (by omega)) (dl_un hmm (by omega) (by omega) (by omega)) (dl_un hmm (by omega) (by omega) (by omega)) (dl_un hmm (by omega) (by omega) (by omega))⟩
  rw [dlV, dcV, hmm, ec, eb]
  exact IC.dv (hI.draw.draw.come (mN_draw.trans (mN_draw.trans hmm)) hm9 hc (by omega)) 6 (by omega)
theorem dlN_ok {n : Nat} : ∀ {v : WV} {m : Nat}, IV v → mN v = m → v 1 = nI m → m + n ≤ 9 → IV (dlN v n) ∧ dlN v n 1 = nI (m + n) ∧ ∀ k, k = 2 ∨ k = 10 ∨ k = 14 ∨ 96 ≤ k → dlN v n k = v k := by
  induction n with
  | zero => exact fun iv _ hm _ => ⟨iv, hm, fun _ _ => rfl⟩
  | succ n ih =>
    intro v m iv hmm hm h9
    obtain ⟨a, b, c⟩ := ih (iv.dl hmm (by omega)) (dl_m hmm hm (by omega)) (dl_1 hmm hm) (by omega)
    exact ⟨a, by rw [dlN, b]; congr 1; omega, fun k hk => (c k hk).trans (dl_un hmm (by omega) (by omega) (by omega))⟩
def dealR (v : WV) (x : Int32) : Int32 × WV := if 1 ≤ x ∧ x ≤ 9 then (nI (min x.toNatClampNeg (9 - mN v)), dlN v (min x.toNatClampNeg (9 - mN v))) else (bad, v)
section De
variable {Θ : Th} {d : Nat} {S : SS} {v : WV}
theorem l_X12_deal55 {Q : Int32 → HP → Prop} {m : Nat} (hm9 : m < 9) {a1 a2 a3 : Int32} {u : WV} : ∀ (f : Nat) (S : SS) (x5 : Int32) (i : Nat), x5 = nI i → i + f = 6 → S 160 = dvV u m i → (∀ S', S' 160 = dvV u m 6 → MF S S' → ∀ x5, E Θ (d + 2) 0 0 yX12_deal cX12_deal 6 (some .int) 0 0 183 (lay Θ S') 87 [(5, .int x5), (4, .int (nI m)), (3, .int a3), (2, .int a2), (1, .int a1), (0, .ref (tb Θ + 159))] [] (Qi Q)) → E Θ (d + 2) 0 0 yX12_deal cX12_deal 6 (some .int) 0 0 183 (lay Θ S) 55 [(5, .int x5), (4, .int (nI m)), (3, .int a3), (2, .int a2), (1, .int a1), (0, .ref (tb Θ + 159))] [] (Qi Q) := by
  intro f
  induction f with
  | zero =>
    intro S x5 i hx5 hi hv K
    refine E_iload dX12_deal_55 rfl ?_
    refine E_bipush (v := 6) dX12_deal_57 (by decide) ?_
    refine E_icmp_ge dX12_deal_59 (fun _ => ?_) (fun c => absurd (by rw [hx5]; exact nI_le (a := 6) (by omega) (by omega)) c)
    obtain rfl : i = 6 := by omega
    exact E.loc (by exact ⟨rfl, rfl, rfl, rfl, rfl, rfl, trivial⟩) (K S hv MF.rf x5)
  | succ f ih =>
    intro S x5 i hx5 hi hv K
    refine E_iload dX12_deal_55 rfl ?_
    refine E_bipush (v := 6) dX12_deal_57 (by decide) ?_
    refine E_icmp_ge dX12_deal_59 (fun c => absurd c (fun c => absurd ((nI_leI (a := 6) (by omega) (by omega)).mp (hx5 ▸ c)) (by omega))) (fun _ => ?_)
    refine E_aload_n dX12_deal_62 rfl ?_
    refine E_iload dX12_deal_63 rfl ?_
    refine E_ic (v := 3) dX12_deal_65 (by decide) ?_
    refine E_iload dX12_deal_66 rfl ?_
    refine E_iadd dX12_deal_68 ?_
    refine E_aload_n dX12_deal_69 rfl ?_
    refine E_V0i vX12_132_12 dX12_deal_70 (Nat.le_of_ble_eq_true rfl) (by decide) (sh_159 _) (s_X12_draw hv (fun S70 h70 f70 => ?_))
    refine E_bipush (v := 7) dX12_deal_73 (by decide) ?_
    refine E_irem dX12_deal_75 (by decide) ?_
    refine E_ic (v := 3) dX12_deal_76 (by decide) ?_
    refine E_isub dX12_deal_77 ?_
    refine E_V3v vX12_103_12 dX12_deal_78 (Nat.le_of_ble_eq_true rfl) (by decide) (sh_159 _) (s_X12_put h70 m (3 + i) (18 + 9 * m + i) rfl (by rw [hx5]; exact vwI i) (by omega) (by omega) (fun S78 h78 f78 => ?_))
    refine E_iinc (v := 1) dX12_deal_81 rfl (by decide) (by decide) ?_
    refine E_goto dX12_deal_84 ?_
    exact E.loc (by exact ⟨rfl, rfl, rfl, rfl, rfl, rfl, trivial⟩) (ih S78 _ (i + 1) (by rw [hx5, nI_1]) (by omega) h78 (fun S9 a9 b9 => K S9 a9 ((f70.tr f78).tr b9)))
theorem l_X12_deal15 {Q : Int32 → HP → Prop} {n : Nat} (hn : n ≤ 9) : ∀ (f : Nat) (v : WV) (S : SS) (x2 : Int32) (i m : Nat), x2 = nI i → v 1 = nI m → mN v = m → m ≤ 9 → i ≤ n → f = min (n - i) (9 - m) → S 160 = v → (∀ S', S' 160 = dlN v f → MF S S' → Q (nI (i + f)) (lay Θ S')) → E Θ (d + 2) 0 0 yX12_deal cX12_deal 6 (some .int) 0 0 183 (lay Θ S) 15 [(2, .int x2), (1, .int (nI n)), (0, .ref (tb Θ + 159))] [] (Qi Q) := by
  intro f
  induction f with
  | zero =>
    intro v S x2 i m hx2 hm hmm hm9 hin hf hv hq
    rcases (show n ≤ i ∨ 9 ≤ m by omega) with h | h
    · refine E_iload_n dX12_deal_15 rfl ?_
      refine E_iload_n dX12_deal_16 rfl ?_
      refine E_icmp_ge dX12_deal_17 (fun _ => ?_) (fun c => absurd (by rw [hx2]; exact nI_le h (by omega)) c)
      refine E_iload_n dX12_deal_93 rfl ?_
      refine E_iret dX12_deal_94 rfl rfl ?_
      rw [hx2]
      exact hq S hv MF.rf
    · refine E_iload_n dX12_deal_15 rfl ?_
      refine E_iload_n dX12_deal_16 rfl ?_
      refine E_icmp_ge dX12_deal_17 (fun c17 => ?_) (fun c17 => ?_)
      · refine E_iload_n dX12_deal_93 rfl ?_
        refine E_iret dX12_deal_94 rfl rfl ?_
        rw [hx2]
        exact hq S hv MF.rf
      · refine E_aload_n dX12_deal_20 rfl ?_
        refine L_get fX12_9 dX12_deal_21 (by decide) sh_159 rfl ?_
        refine E_ic (v := 1) dX12_deal_24 (by decide) ?_
        refine N_iald (j := 1) dX12_deal_25 rfl (by decide) hv ?_
        refine E_bipush (v := 9) dX12_deal_26 (by decide) ?_
        refine E_icmp_ge dX12_deal_28 (fun _ => ?_) (fun c => absurd (by rw [hm]; exact nI_le (a := 9) h (by omega)) c)
        refine E_iload_n dX12_deal_93 rfl ?_
        refine E_iret dX12_deal_94 rfl rfl ?_
        rw [hx2]
        exact hq S hv MF.rf
  | succ f ih =>
    intro v S x2 i m hx2 hm hmm hm9 hin hf hv hq
    refine E_iload_n dX12_deal_15 rfl ?_
    refine E_iload_n dX12_deal_16 rfl ?_
    refine E_icmp_ge dX12_deal_17 (fun c => absurd c (fun c => absurd ((nI_leI (by omega) (by omega)).mp (hx2 ▸ c)) (by omega))) (fun _ => ?_)
    refine E_aload_n dX12_deal_20 rfl ?_
    refine L_get fX12_9 dX12_deal_21 (by decide) sh_159 rfl ?_
    refine E_ic (v := 1) dX12_deal_24 (by decide) ?_
    refine N_iald (j := 1) dX12_deal_25 rfl (by decide) hv ?_
    refine E_bipush (v := 9) dX12_deal_26 (by decide) ?_
    refine E_icmp_ge dX12_deal_28 (fun c => absurd c (fun c => absurd ((nI_leI (a := 9) (by omega) (by omega)).mp (hm ▸ c)) (by omega))) (fun _ => ?_)
    refine E_aload_n dX12_deal_31 rfl ?_
    refine E_V0i vX12_132_12 dX12_deal_32 (Nat.le_of_ble_eq_true rfl) (by decide) (sh_159 _) (s_X12_draw hv (fun S32 h32 f32 => ?_))
    refine E_bipush (v := 6) dX12_deal_35 (by decide) ?_
    refine E_irem dX12_deal_37 (by decide) ?_
    refine E_istore_n dX12_deal_38 (by decide) ?_
    refine E_aload_n dX12_deal_39 rfl ?_
    refine E_iload_n dX12_deal_40 rfl ?_
    refine E_aload_n dX12_deal_41 rfl ?_
    refine E_V0i vX12_132_12 dX12_deal_42 (Nat.le_of_ble_eq_true rfl) (by decide) (sh_159 _) (s_X12_draw h32 (fun S42 h42 f42 => ?_))
    refine E_ic (v := 2) dX12_deal_45 (by decide) ?_
    refine E_irem dX12_deal_46 (by decide) ?_
    refine E_V2i vX12_109_12 dX12_deal_47 (Nat.le_of_ble_eq_true rfl) (by decide) (sh_159 _) (s_X12_comes h42 (m := m) (dd_1.trans hm) (mN_draw.trans (mN_draw.trans hmm)) (by omega) (fun S47 h47 f47 => ?_))
    refine E_istore dX12_deal_50 (by decide) ?_
    refine E_ic (v := 0) dX12_deal_52 (by decide) ?_
    refine E_istore dX12_deal_53 (by decide) ?_
    refine E.loc (by exact ⟨rfl, rfl, rfl, rfl, rfl, rfl, trivial⟩) (l_X12_deal55 (by omega) (u := dcV v) 6 S47 0 0 rfl (by omega) h47 (fun S8 h8 f8 x5 => ?_))
    refine E_iinc (v := 1) dX12_deal_87 rfl (by decide) (by decide) ?_
    refine E_goto dX12_deal_90 ?_
    exact E.loc (by exact ⟨rfl, rfl, rfl, trivial⟩) (ih (dlV v) S8 _ (i + 1) (m + 1) (by rw [hx2, nI_1]) (dl_1 hmm hm) (dl_m hmm hm (by omega)) (by omega) (by omega) (by omega) (h8.trans (by rw [dlV, hmm])) (fun S9 a9 b9 => by rw [show i + (f + 1) = i + 1 + f by omega] at hq; exact hq S9 a9 ((((((MF.rf).tr f32).tr f42).tr f47).tr f8).tr b9)))
theorem s_X12_deal {Q : Int32 → HP → Prop} (hv : S 160 = v) {m : Nat} (hm : v 1 = nI m) (hmm : mN v = m) (hm9 : m ≤ 9) {x : Int32} (hq : ∀ S', S' 160 = (dealR v x).2 → MF S S' → Q (dealR v x).1 (lay Θ S')) : C Θ (d + 2) 0 0 yX12_deal cX12_deal 6 (some .int) [.ref (tb Θ + 159), .int x] 183 (lay Θ S) (Qi Q) := by
  refine C_of rfl rfl (Nat.le_of_ble_eq_true rfl) ?_
  refine E_iload_n dX12_deal_0 rfl ?_
  refine E_ic (v := 1) dX12_deal_1 (by decide) ?_
  refine E_bipush (v := 9) dX12_deal_2 (by decide) ?_
  refine E_S3i sX12_81 dX12_deal_4 (Nat.le_of_ble_eq_true rfl) (s_X12_in (fun g1a g1b => ?_) (fun g1 => ?_))
  · refine E_if_ne dX12_deal_7 (fun _ => ?_) (fun c => absurd c (by decide))
    refine E_ic (v := 0) dX12_deal_13 (by decide) ?_
    refine E_istore_n dX12_deal_14 (by decide) ?_
    obtain ⟨n, hn, en⟩ := isIx_le (n := 9) (by decide) (Int32.le_trans (by decide) g1a) g1b
    rw [dealR, if_pos ⟨g1a, g1b⟩, en, nI_clamp (by omega), hmm] at hq
    rw [en]
    exact E.loc (by exact ⟨rfl, rfl, rfl, trivial⟩) (l_X12_deal15 (n := n) (by omega) (min n (9 - m)) v S 0 0 m rfl hm hmm hm9 (by omega) (by omega) hv (fun S9 a9 b9 => by rw [Nat.zero_add]; exact hq S9 a9 b9))
  · refine E_if_ne dX12_deal_7 (fun c => absurd rfl c) (fun _ => ?_)
    refine E_ldc dX12_deal_10 kX12_107 ?_
    refine E_iret dX12_deal_12 rfl rfl ?_
    rw [dealR, if_neg g1] at hq
    exact hq S hv MF.rf
theorem s_X10_drawR {Q : Int32 → HP → Prop} {w : Nat} (hw : isW w) (hq : Q (shr8 (S w 11 * 1103515245 + 12345)) (lay Θ (wr S w 11 (S w 11 * 1103515245 + 12345)))) : C Θ d 0 0 yX10_draw cX10_draw 1 (some .int) [.ref (tb Θ + w)] 183 (lay Θ S) (Qi Q) := by
  refine C_of rfl rfl (Nat.le_of_ble_eq_true rfl) ?_
  refine E_aload_n dX10_draw_0 rfl ?_
  refine E_aload_n dX10_draw_1 rfl ?_
  refine L_get fX10_28 dX10_draw_2 (by have := (hw).lt; omega) (sh_W hw) rfl ?_
  refine E_ldc dX10_draw_5 kX10_74 ?_
  refine E_imul dX10_draw_7 ?_
  refine E_sipush (v := 12345) dX10_draw_8 (by decide) ?_
  refine E_iadd dX10_draw_11 ?_
  refine L_puti fX10_28 dX10_draw_12 (by have := (hw).lt; omega) (sh_W hw) (Nat.le_of_ble_eq_true rfl) rfl ?_
  refine E_aload_n dX10_draw_15 rfl ?_
  refine L_get fX10_28 dX10_draw_16 (by have := (hw).lt; omega) (sh_W hw) rfl ?_
  refine E_bipush (v := 8) dX10_draw_19 (by decide) ?_
  refine E_iushr dX10_draw_21 ?_
  refine E_iret dX10_draw_22 rfl rfl ?_
  rw [wr_at, pk_us]
  exact hq
/-- how far the class is with the views of one that comes -/
def DI (B S : SS) (u : WV) (m : Nat) : Prop := S 20 11 = u 0 ∧ WPas S (20 + 4 + 2 * m) u m ∧ (∀ j, j ≠ 11 → S 20 j = B 20 j) ∧ ∀ k, k ≠ 20 → k ≠ 20 + 4 + 2 * m → k ≠ 20 + 4 + 2 * m + 1 → S k = B k
theorem DI.step {B S : SS} {u : WV} {m i : Nat} (hi : i < 6) (h : DI B S u m) : DI B (wr (wr S 20 11 (S 20 11 * 1103515245 + 12345)) (20 + 4 + 2 * m + 1) i (rem7 (shr8 (S 20 11 * 1103515245 + 12345)) - 3)) (upd (drawV u) (18 + 9 * m + i) (rem7 (drawR u) - 3)) m := by
  obtain ⟨h1, ⟨a1, a2, a3, a4⟩, h3, h4⟩ := h
  rw [h1]
  refine ⟨?_, ⟨?_, ?_, ?_, fun j hj => ?_⟩, fun j hj => ?_, fun k k1 k2 k3 => ?_⟩
  · rw [wr_ne (by omega), wr_at, pk_us, pk_un (by omega)]; exact pk_us.symm
  · rw [wr_ne (by omega), wr_ne (by omega), pk_un (by omega), drawV, pk_un (by omega)]; exact a1
  · rw [wr_ne (by omega), wr_ne (by omega), pk_un (by omega), drawV, pk_un (by omega)]; exact a2
  · rw [wr_ne (by omega), wr_ne (by omega), pk_un (by omega), drawV, pk_un (by omega)]; exact a3
  · rw [wr_at]
    by_cases e : j = i
    · subst e
      rw [pk_us, pk_us]
      rfl
    · rw [pk_un e, pk_un (by omega), wr_ne (by omega), drawV, pk_un (by omega)]; exact a4 j hj
  · rw [wr_ne (by omega), wr_at, pk_un hj]; exact h3 j hj
  · rw [wr_ne k3, wr_ne k1]; exact h4 k k1 k2 k3
theorem l_X11_deal92 {Q : Int32 → HP → Prop} {m : Nat} (hm9 : m < 9) {a1 a2 a3 a4 a5 : Int32} {u : WV} {B : SS} : ∀ (f : Nat) (S : SS) (x7 : Int32) (i : Nat), x7 = nI i → i + f = 6 → DI B S (dvV u m i) m → (∀ S', DI B S' (dvV u m 6) m → ∀ x7, E Θ (d + 2) 0 0 yX11_deal cX11_deal 8 (some .int) 0 0 183 (lay Θ S') 125 [(7, .int x7), (6, .ref (tb Θ + (20 + 4 + 2 * m))), (5, .int a5), (4, .int a4), (3, .int a3), (2, .int a2), (1, .int a1), (0, .ref (tb Θ + 0))] [] (Qi Q)) → E Θ (d + 2) 0 0 yX11_deal cX11_deal 8 (some .int) 0 0 183 (lay Θ S) 92 [(7, .int x7), (6, .ref (tb Θ + (20 + 4 + 2 * m))), (5, .int a5), (4, .int a4), (3, .int a3), (2, .int a2), (1, .int a1), (0, .ref (tb Θ + 0))] [] (Qi Q) := by
  intro f
  induction f with
  | zero =>
    intro S x7 i hx7 hi hD K
    refine E_iload dX11_deal_92 rfl ?_
    refine E_bipush (v := 6) dX11_deal_94 (by decide) ?_
    refine E_icmp_ge dX11_deal_96 (fun _ => ?_) (fun c => absurd (by rw [hx7]; exact nI_le (a := 6) (by omega) (by omega)) c)
    obtain rfl : i = 6 := by omega
    exact E.loc (by exact ⟨rfl, rfl, rfl, rfl, rfl, rfl, rfl, rfl, trivial⟩) (K S hD x7)
  | succ f ih =>
    intro S x7 i hx7 hi hD K
    refine E_iload dX11_deal_92 rfl ?_
    refine E_bipush (v := 6) dX11_deal_94 (by decide) ?_
    refine E_icmp_ge dX11_deal_96 (fun c => absurd c (fun c => absurd ((nI_leI (a := 6) (by omega) (by omega)).mp (hx7 ▸ c)) (by omega))) (fun _ => ?_)
    refine E_aload dX11_deal_99 rfl ?_
    refine L_get fX11_142 dX11_deal_101 (by have := ((isW20.p (i := m) (by omega))).lt; omega) (sh_P (isW20.p (i := m) (by omega))) rfl ?_
    refine E_iload dX11_deal_104 rfl ?_
    refine E_aload_n dX11_deal_106 rfl ?_
    refine L_get fX11_83 dX11_deal_107 (by decide) sh_0 rfl ?_
    refine E_V0i vX11_166_10 dX11_deal_110 (Nat.le_of_ble_eq_true rfl) (by have := (isW20).lt; omega) ((sh_W isW20) _) (s_X10_drawR isW20 ?_)
    refine E_bipush (v := 7) dX11_deal_113 (by decide) ?_
    refine E_irem dX11_deal_115 (by decide) ?_
    refine E_ic (v := 3) dX11_deal_116 (by decide) ?_
    refine E_isub dX11_deal_117 ?_
    refine L_iast (j := i) dX11_deal_118 (by have := ((isW20.p (i := m) (by omega))).lt; omega) (sh_Pv (isW20.p (i := m) (by omega))) hx7 (by omega) (by decide) ?_
    refine E_iinc (v := 1) dX11_deal_119 rfl (by decide) (by decide) ?_
    refine E_goto dX11_deal_122 ?_
    exact E.loc (by exact ⟨rfl, rfl, rfl, rfl, rfl, rfl, rfl, rfl, trivial⟩) (ih _ _ (i + 1) (by rw [hx7, nI_1]) (by omega) (hD.step (by omega)) K)
theorem l_X11_deal30 {Q : Int32 → HP → Prop} {n : Nat} (hn : n ≤ 9) {a1 : Int32} : ∀ (f : Nat) (v : WV) (S : SS) (x3 : Int32) (i m : Nat), x3 = nI i → v 1 = nI m → mN v = m → m + f ≤ 9 → i + f = n → WRep S 20 v → (∀ S', WRep S' 20 (dlN v f) → WF 20 S S' → Q (nI n) (lay Θ S')) → E Θ (d + 2) 0 0 yX11_deal cX11_deal 8 (some .int) 0 0 183 (lay Θ S) 30 [(3, .int x3), (2, .int (nI n)), (1, .int a1), (0, .ref (tb Θ + 0))] [] (Qi Q) := by
  have hw : isW 20 := isW20
  intro f
  induction f with
  | zero =>
    intro v S x3 i m hx3 hm hmm hm9 hi hR hq
    refine E_iload_n dX11_deal_30 rfl ?_
    refine E_iload_n dX11_deal_31 rfl ?_
    refine E_icmp_ge dX11_deal_32 (fun _ => ?_) (fun c => absurd (by rw [hx3]; exact nI_le (by omega) (by omega)) c)
    refine E_iload_n dX11_deal_144 rfl ?_
    refine E_iret dX11_deal_145 rfl rfl ?_
    obtain rfl : i = n := by omega
    exact hq S hR WF.rf
  | succ f ih =>
    intro v S x3 i m hx3 hm hmm hm9 hi hR hq
    refine E_iload_n dX11_deal_30 rfl ?_
    refine E_iload_n dX11_deal_31 rfl ?_
    refine E_icmp_ge dX11_deal_32 (fun c => absurd c (fun c => absurd ((nI_leI (by omega) (by omega)).mp (hx3 ▸ c)) (by omega))) (fun _ => ?_)
    have hm1 : S 20 1 = nI m := (hR.1 (1, 1) (by decide)).trans hm
    have h11 : S 20 11 = v 0 := hR.1 (11, 0) (by decide)
    obtain ⟨c, hc, ec⟩ := rem6_ix v
    obtain ⟨b, hb, eb⟩ := rem2_ix (drawV v)
    refine E_aload_n dX11_deal_35 rfl ?_
    refine L_get fX11_83 dX11_deal_36 (by decide) sh_0 rfl ?_
    refine E_V0i vX11_166_10 dX11_deal_39 (Nat.le_of_ble_eq_true rfl) (by have := (isW20).lt; omega) ((sh_W isW20) _) (s_X10_drawR isW20 ?_)
    refine E_bipush (v := 6) dX11_deal_42 (by decide) ?_
    refine E_irem dX11_deal_44 (by decide) ?_
    refine E_back (show _ = nI c from (show rem6 (shr8 (S 20 11 * 1103515245 + 12345)) = nI c by rw [h11]; exact ec)) ?_
    refine E_istore dX11_deal_45 (by decide) ?_
    refine E_aload_n dX11_deal_47 rfl ?_
    refine L_get fX11_83 dX11_deal_48 (by decide) sh_0 rfl ?_
    refine E_V0i vX11_166_10 dX11_deal_51 (Nat.le_of_ble_eq_true rfl) (by have := (isW20).lt; omega) ((sh_W isW20) _) (s_X10_drawR isW20 ?_)
    refine E_ic (v := 2) dX11_deal_54 (by decide) ?_
    refine E_irem dX11_deal_55 (by decide) ?_
    refine E_istore dX11_deal_56 (by decide) ?_
    refine E_aload_n dX11_deal_58 rfl ?_
    refine L_get fX11_83 dX11_deal_59 (by decide) sh_0 rfl ?_
    refine L_get fX11_111 dX11_deal_62 (by have := (isW20).lt; omega) (sh_W isW20) rfl ?_
    refine E_aload_n dX11_deal_65 rfl ?_
    refine L_get fX11_83 dX11_deal_66 (by decide) sh_0 rfl ?_
    refine L_get fX11_106 dX11_deal_69 (by have := (isW20).lt; omega) (sh_W isW20) rfl ?_
    refine L_aald (j := m) dX11_deal_72 (by have := (isW20).lt; omega) (sh_Wc isW20) rfl (by rw [wr_at, pk_un (by decide), wr_at, pk_un (by decide)]; exact hm1) (by omega) (by decide) (if_pos (by omega)) ?_
    refine E_astore dX11_deal_73 (by decide) ?_
    refine E_aload dX11_deal_75 rfl ?_
    refine E_aload_n dX11_deal_77 rfl ?_
    refine L_get fX11_11 dX11_deal_78 (by decide) sh_0 rfl ?_
    refine E_iload dX11_deal_81 rfl ?_
    refine L_aald (j := c) dX11_deal_83 (by decide) sh_1 rfl rfl hc (by decide) (if_pos hc) ?_
    refine E_iload dX11_deal_84 rfl ?_
    refine E_V2v vX11_114_4 dX11_deal_86 (Nat.le_of_ble_eq_true rfl) (by have := ((isW20.p (i := m) (by omega))).lt; omega) ((sh_P (isW20.p (i := m) (by omega))) _) (s_X4_begin (isW20.p (i := m) (by omega)) hc (fun S86 a86 b86 c86 e86 f86 => ?_))
    refine E_ic (v := 0) dX11_deal_89 (by decide) ?_
    refine E_istore dX11_deal_90 (by decide) ?_
    have g1 : ∀ j, j ≠ 11 → S86 20 j = S 20 j := fun j hj => by rw [f86 20 (by omega) (by omega), wr_at, pk_un hj, wr_at, pk_un hj]
    have g2 : ∀ k, k ≠ 20 → k ≠ 20 + 4 + 2 * m → k ≠ 20 + 4 + 2 * m + 1 → S86 k = S k := fun k h1 h2 h3 => by rw [f86 k h2 h3, wr_ne h1, wr_ne h1]
    have hD : DI S86 S86 (dcV v) m := by
      refine ⟨?_, ⟨?_, ?_, ?_, fun j hj => ?_⟩, fun _ _ => rfl, fun _ _ _ _ => rfl⟩
      · rw [f86 20 (by omega) (by omega), wr_at, pk_us, wr_at, pk_us, h11, dcV, co_un (mN_draw.trans (mN_draw.trans hmm)) (by omega) (by omega)]; exact pk_us.symm
      · rw [a86, dcV, co_k (mN_draw.trans (mN_draw.trans hmm)), ec]
      · rw [b86, dcV, co_b (mN_draw.trans (mN_draw.trans hmm))]; rw [wr_at, pk_us, h11]; rfl
      · rw [c86, dcV, co_z (mN_draw.trans (mN_draw.trans hmm)) (by omega) (by omega)]
      · rw [e86 j hj, dcV, co_z (mN_draw.trans (mN_draw.trans hmm)) (by omega) (by omega)]
    refine E.loc (by exact ⟨rfl, rfl, rfl, rfl, rfl, rfl, rfl, rfl, trivial⟩) (l_X11_deal92 (by omega) (u := dcV v) (B := S86) 6 S86 0 0 rfl (by omega) hD (fun S8 hD8 x7 => ?_))
    refine E_aload_n dX11_deal_125 rfl ?_
    refine L_get fX11_83 dX11_deal_126 (by decide) sh_0 rfl ?_
    refine E_dup dX11_deal_129 rfl ?_
    refine L_get fX11_106 dX11_deal_130 (by have := (isW20).lt; omega) (sh_W isW20) rfl ?_
    refine E_ic (v := 1) dX11_deal_133 (by decide) ?_
    refine E_iadd dX11_deal_134 ?_
    refine L_puti fX11_106 dX11_deal_135 (by have := (isW20).lt; omega) (sh_W isW20) (Nat.le_of_ble_eq_true rfl) rfl ?_
    refine E_iinc (v := 1) dX11_deal_138 rfl (by decide) (by decide) ?_
    refine E_goto dX11_deal_141 ?_
    have e1 : S8 20 1 = nI m := (hD8.2.2.1 1 (by decide)).trans ((g1 1 (by decide)).trans hm1)
    rw [e1, nI_1]
    have hW : WRep (wr S8 20 1 (nI (m + 1))) 20 (dlV v) := by
      have hu : dlV v = dvV (dcV v) m 6 := by rw [dlV, hmm]
      obtain ⟨d1, ⟨p1, p2, p3, p4⟩, d3, d4⟩ := hD8
      refine hR.more hmm (dl_1 hmm hm) (by omega) ?_ ?_ (fun j h1 h2 => ?_) (fun k h0 h1 hr => dl_un hmm h0 h1 hr) ⟨?_, ?_, ?_, fun j hj => ?_⟩ (fun k h1 h2 h3 h4 => ?_)
      · rw [wr_at, pk_us, dl_1 hmm hm]
      · rw [wr_at, pk_un (by decide), d1, hu]
      · rw [wr_at, pk_un h1, d3 j h2, g1 j h2]
      · rw [wr_ne (by omega), p1, hu]
      · rw [wr_ne (by omega), p2, hu]
      · rw [wr_ne (by omega), p3, hu]
      · rw [wr_ne (by omega), p4 j hj, hu]
      · rw [wr_ne (by omega), d4 k (by omega) h3 h4, g2 k (by omega) h3 h4]
    have hF : WF 20 S (wr S8 20 1 (nI (m + 1))) := fun k h1 _ => by rw [wr_ne (by omega), hD8.2.2.2 k (by omega) (by omega) (by omega), g2 k (by omega) (by omega) (by omega)]
    exact E.loc (by exact ⟨rfl, rfl, rfl, rfl, trivial⟩) (ih (dlV v) _ _ (i + 1) (m + 1) (by rw [hx3, nI_1]) (dl_1 hmm hm) (dl_m hmm hm (by omega)) (by omega) (by omega) hW (fun S9 a9 b9 => hq S9 a9 (hF.tr b9)))
theorem min_nI {n k : Nat} (hn : n < 2000) (hk : k < 2000) : (if nI k < nI n then nI k else nI n) = nI (min n k) := by
  by_cases h : k < n
  · rw [if_pos (nI_lt h (by omega)), Nat.min_eq_right (by omega)]
  · rw [if_neg (nI_nlt (by omega) (by omega)), Nat.min_eq_left (by omega)]
theorem s_X11_deal {Q : Int32 → HP → Prop} (hR : WRep S 20 v) {m : Nat} (hm : v 1 = nI m) (hmm : mN v = m) (hm9 : m ≤ 9) {x : Int32} (hq : ∀ S', WRep S' 20 (dealR v x).2 → WF 20 S S' → Q (dealR v x).1 (lay Θ S')) : C Θ (d + 2) 0 0 yX11_deal cX11_deal 8 (some .int) [.ref (tb Θ + 0), .int x] 183 (lay Θ S) (Qi Q) := by
  refine C_of rfl rfl (Nat.le_of_ble_eq_true rfl) ?_
  have hw : isW 20 := isW20
  have hm1 : S 20 1 = nI m := (hR.1 (1, 1) (by decide)).trans hm
  refine E_iload_n dX11_deal_0 rfl ?_
  refine E_ic (v := 1) dX11_deal_1 (by decide) ?_
  refine E_bipush (v := 9) dX11_deal_2 (by decide) ?_
  refine E_S3i sX11_145 dX11_deal_4 (Nat.le_of_ble_eq_true rfl) (s_X11_within (fun g1a g1b => ?_) (fun g1 => ?_))
  · refine E_if_ne dX11_deal_7 (fun _ => ?_) (fun c => absurd c (by decide))
    refine E_iload_n dX11_deal_13 rfl ?_
    refine E_bipush (v := 9) dX11_deal_14 (by decide) ?_
    refine E_aload_n dX11_deal_16 rfl ?_
    refine L_get fX11_83 dX11_deal_17 (by decide) sh_0 rfl ?_
    refine W_get (j := 1) (i := 1) hR hw (by decide) fX11_106 dX11_deal_20 ?_
    refine E_isub dX11_deal_23 ?_
    obtain ⟨n, hn, en⟩ := isIx_le (n := 9) (by decide) (Int32.le_trans (by decide) g1a) g1b
    rw [dealR, if_pos ⟨g1a, g1b⟩, en, nI_clamp (by omega), hmm] at hq
    rw [en, hm, show (9 : Int32) - nI m = nI (9 - m) from pk_sub (a := 9) hm9]
    refine E_mmin mX11_160 w_mins w_mi w_minc dX11_deal_24 (Nat.le_of_ble_eq_true rfl) ?_
    rw [min_nI (by omega) (by omega)]
    refine E_istore_n dX11_deal_27 (by decide) ?_
    refine E_ic (v := 0) dX11_deal_28 (by decide) ?_
    refine E_istore_n dX11_deal_29 (by decide) ?_
    exact E.loc (by exact ⟨rfl, rfl, rfl, rfl, trivial⟩) (l_X11_deal30 (n := min n (9 - m)) (by omega) (min n (9 - m)) v S 0 0 m rfl hm hmm (by omega) (by omega) hR hq)
  · refine E_if_ne dX11_deal_7 (fun c => absurd rfl c) (fun _ => ?_)
    refine E_ldc dX11_deal_10 kX11_105 ?_
    refine E_iret dX11_deal_12 rfl rfl ?_
    rw [dealR, if_neg g1] at hq
    exact hq S hR WF.rf
end De
