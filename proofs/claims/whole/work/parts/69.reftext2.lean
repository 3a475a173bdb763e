/-! the reference's text -/
def lkL : List Int32 → Nat → Int32
  | [], _ => 0
  | x :: r, k => if k = r.length then x else lkL r k
theorem arL.lk {f : Nat → Int32} : ∀ {L : List Int32}, arL f L → ∀ k, k < L.length → f k = lkL L k
  | [], _, k, hk => absurd hk (Nat.not_lt_zero _)
  | x :: r, h, k, hk => by
    simp only [List.length_cons] at hk
    rw [lkL]
    by_cases c : k = r.length
    · rw [if_pos c, c]; exact h.1
    · rw [if_neg c]; exact h.2.lk k (by omega)
def cpV (u : WV) (t : Nat) (L : List Int32) (k : Nat) : WV := fun j => if 124 + 96 * t ≤ j ∧ j < 124 + 96 * t + k then lkL L (j - (124 + 96 * t)) else u j
theorem cp_0 {u : WV} {t : Nat} {L : List Int32} : cpV u t L 0 = u := funext fun j => by rw [cpV, if_neg (by omega)]
theorem cp_s {u : WV} {t k : Nat} {L : List Int32} : upd (cpV u t L k) (124 + 96 * t + k) (lkL L k) = cpV u t L (k + 1) := funext fun j => by
  by_cases c : j = 124 + 96 * t + k
  · rw [c, pk_us, cpV, if_pos (by omega), show 124 + 96 * t + k - (124 + 96 * t) = k by omega]
  · rw [pk_un c, cpV, cpV]
    by_cases c2 : 124 + 96 * t ≤ j ∧ j < 124 + 96 * t + k
    · rw [if_pos c2, if_pos (by omega)]
    · rw [if_neg c2, if_neg (by omega)]
/-- a world with one text more -/
def tV (v : WV) (t i : Nat) (L : List Int32) (a : Nat) : WV := upd (cpV (upd (upd v (96 + 2 * t) (nI (1000 * i + L.length))) (97 + 2 * t) (nI a)) t L L.length) 14 (nI (t + 1))
/-- how a tape is read: key, and what comes of it -/
def TxR (b : Nat → Int32) (n key : Nat) (o : OU) : Prop := (keF b (nxS b n 0) (nxE b n 0) (nxK b n 0 258) = none → o = (none, nxS b n 0)) ∧ ∀ i, keF b (nxS b n 0) (nxE b n 0) (nxK b n 0 258) = some i → key = i ∧ ∃ f, Rn b n i f (true, 0, 0, [], [], 0, fun _ => false, nxS b n (nxE b n 0), nxE b n (nxE b n 0), nxK b n (nxE b n 0) (nxK b n 0 258)) o
theorem ke_ok {b : Nat → Int32} {s e i : Nat} {t : Int32} (h : keF b s e t = some i) : i < 3 ∧ t = 256 ∧ 3 ≤ e - s := by
  unfold keF at h
  by_cases h6 : t = 256
  · rw [if_pos h6] at h
    by_cases p0 : klE b s e 0
    · rw [if_pos p0] at h
      cases h
      exact ⟨by decide, h6, by rw [p0.1]; decide⟩
    · rw [if_neg p0] at h
      by_cases p1 : klE b s e 1
      · rw [if_pos p1] at h
        cases h
        exact ⟨by decide, h6, by rw [p1.1]; decide⟩
      · rw [if_neg p1] at h
        by_cases p2 : klE b s e 2
        · rw [if_pos p2] at h
          cases h
          exact ⟨by decide, h6, by rw [p2.1]; decide⟩
        · rw [if_neg p2] at h
          cases h
  · rw [if_neg h6] at h
    cases h
theorem TxR.fin {b : Nat → Int32} {n key : Nat} {o : OU} (h : TxR b n key o) (hb : byOk b n) (hn : n ≤ 96) : FinO n key o ∧ (¬ o.1 = none → key < 3) := by
  rcases hk : keF b (nxS b n 0) (nxE b n 0) (nxK b n 0 258) with _ | i
  · have := h.1 hk
    rw [this]
    exact ⟨fun C' a' z => (by cases z), fun z => absurd rfl z⟩
  · obtain ⟨rfl, f, hr⟩ := h.2 i hk
    obtain ⟨k3, -, k5⟩ := ke_ok hk
    have h1 := nxE_le (b := b) (Nat.zero_le n)
    have h2 := nxS_le (b := b) h1.2.1
    exact ⟨Rn_fin hb f _ _ _ _ _ _ _ _ _ _ o hr (PIn_0 (nx_ok hb h1.2.1) hn (by omega)), fun _ => k3⟩
def XFr (S S' : SS) : Prop := (∀ j, (j < 8 ∨ 21 < j) → S' 159 j = S 159 j) ∧ ∀ k, k ≠ 159 → k ≠ 160 → k ≠ 169 → k ≠ 170 → k ≠ 171 → k ≠ 172 → k ≠ 173 → S' k = S k
theorem XFr.rf {S : SS} : XFr S S := ⟨fun _ _ => rfl, fun _ _ _ _ _ _ _ _ => rfl⟩
theorem XFr.tr {S S' S'' : SS} (h : XFr S S') (h' : XFr S' S'') : XFr S S'' := ⟨fun j a => (h'.1 j a).trans (h.1 j a), fun k a b c e f g i => (h'.2 k a b c e f g i).trans (h.2 k a b c e f g i)⟩
theorem XFr.w {S : SS} {j : Nat} {x : Int32} (h : 8 ≤ j) (h' : j ≤ 21) : XFr S (wr S 159 j x) := ⟨fun i a => by rw [wr_at, pk_un (by omega)], fun k a _ _ _ _ _ _ => wr_ne a⟩
theorem PFr.x {S S' : SS} (h : PFr S S') : XFr S S' := ⟨fun j a => h.1 j (by omega) (by omega) (by omega) (by omega), fun k a _ b c e _ _ => h.2 k a b c e⟩
theorem KFr.x {S S' : SS} (h : KFr S S') : XFr S S' := ⟨fun j a => h.1 j (by omega), fun k a _ _ _ _ _ _ => h.2 k a⟩
theorem MF.x {S S' : SS} (h : MF S S') : XFr S S' := ⟨fun j _ => by rw [h 159 (by decide) (by decide) (by decide)], fun k _ a _ _ _ b c => h k a b c⟩
section Tt
variable {Θ : Th} {d : Nat} {S : SS} {b : Nat → Int32} {n : Nat} {v : WV}
theorem l_X12_text {Q : Int32 → HP → Prop} {t : Nat} (ht : t < 14) {u : WV} {L : List Int32} (h96 : L.length ≤ 96) : ∀ (f : Nat) (S : SS) (x3 : Int32) (k : Nat), x3 = nI k → k + f = L.length → S 160 = cpV u t L k → S 159 18 = nI L.length → arL (S 169) L → (∀ S', S' 160 = cpV u t L L.length → MF S S' → E Θ (d + 4) 0 0 yX12_text cX12_text 4 (some .int) 0 0 183 (lay Θ S') 151 [(2, .int (nI t)), (0, .ref (tb Θ + 159))] [] (Qi Q)) → E Θ (d + 4) 0 0 yX12_text cX12_text 4 (some .int) 0 0 183 (lay Θ S) 117 [(3, .int x3), (2, .int (nI t)), (0, .ref (tb Θ + 159))] [] (Qi Q) := by
  intro f
  induction f with
  | zero =>
    intro S x3 k hx3 hkf hv hh ha K
    refine E_iload_n dX12_text_117 rfl ?_
    refine E_aload_n dX12_text_118 rfl ?_
    refine L_get fX12_243 dX12_text_119 (by decide) sh_159 rfl ?_
    rw [hh]
    refine E_icmp_ge dX12_text_122 (fun _ => ?_) (fun c => absurd (by rw [hx3]; exact nI_le (by omega) (by omega)) c)
    obtain rfl : k = L.length := by omega
    exact E.loc (by exact ⟨rfl, rfl, trivial⟩) (K S hv MF.rf)
  | succ f ih =>
    intro S x3 k hx3 hkf hv hh ha K
    refine E_iload_n dX12_text_117 rfl ?_
    refine E_aload_n dX12_text_118 rfl ?_
    refine L_get fX12_243 dX12_text_119 (by decide) sh_159 rfl ?_
    rw [hh]
    refine E_icmp_ge dX12_text_122 (fun c => absurd c (fun z => absurd ((nI_leI (by omega) (by omega)).mp (hx3 ▸ z)) (by omega))) (fun _ => ?_)
    refine E_aload_n dX12_text_125 rfl ?_
    refine L_get fX12_9 dX12_text_126 (by decide) sh_159 rfl ?_
    refine E_bipush (v := 124) dX12_text_129 (by decide) ?_
    refine E_bipush (v := 96) dX12_text_131 (by decide) ?_
    refine E_iload_n dX12_text_133 rfl ?_
    refine E_imul dX12_text_134 ?_
    refine E_iadd dX12_text_135 ?_
    refine E_iload_n dX12_text_136 rfl ?_
    refine E_iadd dX12_text_137 ?_
    refine E_aload_n dX12_text_138 rfl ?_
    refine L_get fX12_39 dX12_text_139 (by decide) sh_159 rfl ?_
    refine E_iload_n dX12_text_142 rfl ?_
    refine L_iald (j := k) dX12_text_143 (by decide) sh_169 hx3 (by omega) (by decide) ?_
    rw [ha.lk k (by omega)]
    refine N_iast (j := (124 + 96 * t + k)) dX12_text_144 (by rw [hx3, show (96 : Int32) * nI t = nI (96 * t) from pk_mul 96 t, show (124 : Int32) + nI (96 * t) = nI (124 + 96 * t) from nI_add 124 _]; exact nI_add _ k) (by omega) hv (fun S144 h144 f144 => ?_)
    refine E_iinc (v := 1) dX12_text_145 rfl (by decide) (by decide) ?_
    refine E_goto dX12_text_148 ?_
    exact E.loc (by exact ⟨rfl, rfl, rfl, trivial⟩) (ih S144 _ (k + 1) (by rw [hx3, nI_1]) (by omega) (h144.trans cp_s) (by rw [f144 159 (by decide) (by decide) (by decide)]; exact hh) (by rw [f144 169 (by decide) (by decide) (by decide)]; exact ha) (fun S9 h9 f9 => K S9 h9 (f144.tr f9)))
theorem t151_X12 {Q : Int32 → HP → Prop} (hv : S 160 = v) {t : Nat} (h14 : v 14 = nI t) (hq : ∀ S', S' 160 = upd v 14 (nI (t + 1)) → MF S S' → Q (nI t) (lay Θ S')) : E Θ (d + 4) 0 0 yX12_text cX12_text 4 (some .int) 0 0 183 (lay Θ S) 151 [(2, .int (nI t)), (0, .ref (tb Θ + 159))] [] (Qi Q) := by
  refine E_aload_n dX12_text_151 rfl ?_
  refine L_get fX12_9 dX12_text_152 (by decide) sh_159 rfl ?_
  refine E_bipush (v := 14) dX12_text_155 (by decide) ?_
  refine E_dup2 dX12_text_157 rfl rfl ?_
  refine N_iald (j := 14) dX12_text_158 rfl (by decide) hv ?_
  rw [h14]
  refine E_ic (v := 1) dX12_text_159 (by decide) ?_
  refine E_iadd dX12_text_160 ?_
  rw [nI_1]
  refine N_iast (j := 14) dX12_text_161 rfl (by decide) hv (fun S161 h161 f161 => ?_)
  refine E_iload_n dX12_text_162 rfl ?_
  refine E_iret dX12_text_163 rfl rfl ?_
  exact hq S161 h161 f161
theorem s_X12_text {Q : Int32 → HP → Prop} (hT : MT S b n) (hK : KYS S) (hb : byOk b n) (hn : n ≤ 96) {key : Nat} {o : OU} (hx : TxR b n key o) (hv : S 160 = v) {t : Nat} (h14 : v 14 = nI t) (ht14 : t ≤ 14) (hq0 : o.1 = none → ∀ S', S' 160 = v → XFr S S' → S' 159 8 = 0 → Q (-100 - nI o.2) (lay Θ S')) (hq1 : ∀ L a, o.1 = some (L, a) → t = 14 → ∀ S', S' 160 = v → XFr S S' → S' 159 8 = 0 → Q (-1000000003) (lay Θ S')) (hq2 : ∀ L a, o.1 = some (L, a) → t < 14 → ∀ S', S' 160 = tV v t key L a → XFr S S' → S' 159 8 = 0 → Q (nI t) (lay Θ S')) : C Θ (d + 4) 0 0 yX12_text cX12_text 4 (some .int) [.ref (tb Θ + 159)] 183 (lay Θ S) (Qi Q) := by
  refine C_of rfl rfl (Nat.le_of_ble_eq_true rfl) ?_
  refine E_aload_n dX12_text_0 rfl ?_
  refine E_ic (v := 0) dX12_text_1 (by decide) ?_
  refine L_puti fX12_210 dX12_text_2 (by decide) sh_159 (Nat.le_of_ble_eq_true rfl) rfl ?_
  refine E_aload_n dX12_text_5 rfl ?_
  refine E_ic (v := (-1)) dX12_text_6 (by decide) ?_
  refine L_puti fX12_216 dX12_text_7 (by decide) sh_159 (Nat.le_of_ble_eq_true rfl) rfl ?_
  refine E_aload_n dX12_text_10 rfl ?_
  have f10 : XFr S (wr (wr S 159 9 0) 159 13 (-1)) := (XFr.w (by decide) (by decide)).tr (XFr.w (by decide) (by decide))
  have t10 : MT (wr (wr S 159 9 0) 159 13 (-1)) b n := ⟨by rw [wr_at, pk_un (by decide), wr_at, pk_un (by decide)]; exact hT.1, fun k hk => by rw [wr_ne (by decide), wr_ne (by decide)]; exact hT.2 k hk⟩
  refine E_V0v vX12_234_12 dX12_text_11 (Nat.le_of_ble_eq_true rfl) (by decide) (sh_159 _) (s_X12_go (e := 0) (t := 258) t10 hb hn (Nat.zero_le _) (by rw [wr_at, pk_un (by decide), wr_at, pk_us]; rfl) (by rw [wr_at, pk_us]; exact ⟨fun z => absurd z (by decide), fun _ => by decide⟩) (fun S11 k11 f11 => ?_))
  refine E_aload_n dX12_text_14 rfl ?_
  have t11 := t10.gf f11
  have o11 := nx_ok (t := 258) hb (Nat.zero_le n)
  have K11 : KYS S11 := by
    refine ⟨fun i hi => ?_, fun i k hi hk => ?_⟩
    · rw [f11.2 168 (by decide), wr_ne (by decide), wr_ne (by decide)]; exact hK.1 i hi
    · rw [f11.2 167 (by decide), wr_ne (by decide), wr_ne (by decide)]; exact hK.2 i k hi hk
  have x11 : XFr S S11 := f10.tr f11.p.x
  refine E_V0i vX12_265_12 dX12_text_15 (Nat.le_of_ble_eq_true rfl) (by decide) (sh_159 _) (s_X12_takesKey t11 K11 hn k11 o11 hb (And.symm ⟨fun i hi S15 k15 e15 f15 => ?_, fun h0 => ?_⟩))
  · refine E_if_eq dX12_text_18 (fun c => absurd c (by decide)) (fun _ => ?_)
    refine E_aload_n dX12_text_21 rfl ?_
    obtain ⟨ek, f, hr⟩ := hx.2 i hi
    obtain ⟨k3, k4, k5⟩ := ke_ok hi
    have h1 := nxE_le (b := b) (Nat.zero_le n)
    have h2 := nxS_le (b := b) h1.2.1
    have t15 : MT S15 b n := ⟨by rw [f15.1 8 (by omega)]; exact t11.1, fun k hk => by rw [f15.2 166 (by decide)]; exact t11.2 k hk⟩
    have x15 : XFr S S15 := x11.tr f15.x
    refine E_V0i vX12_268_12 dX12_text_22 (Nat.le_of_ble_eq_true rfl) (by decide) (sh_159 _) (s_X12_takesE t15 hb hn k15 (nx_ok hb h1.2.1) (by omega) e15 k3 hr (fun L a ho S22 g1 g2 g3 g4 => ?_) (fun ho S22 g1 g4 => ?_))
    · refine E_if_eq dX12_text_25 (fun c => absurd c (by decide)) (fun _ => ?_)
      refine E_ic (v := 1) dX12_text_28 (by decide) ?_
      refine E_goto dX12_text_29 ?_
      refine E_istore_n dX12_text_33 (by decide) ?_
      refine E_aload_n dX12_text_34 rfl ?_
      refine E_ic (v := 0) dX12_text_35 (by decide) ?_
      refine L_puti fX12_206 dX12_text_36 (by decide) sh_159 (Nat.le_of_ble_eq_true rfl) rfl ?_
      refine E_iload_n dX12_text_39 rfl ?_
      refine E_if_ne dX12_text_40 (fun _ => ?_) (fun c => absurd c (by decide))
      refine E_aload_n dX12_text_51 rfl ?_
      have x22 : XFr S (wr S22 159 8 0) := (x15.tr g4.x).tr (XFr.w (by decide) (by decide))
      have hv9 : (wr S22 159 8 0) 160 = v := by rw [wr_ne (by decide), g4.2 160 (by decide) (by decide) (by decide) (by decide), f15.2 160 (by decide), f11.2 160 (by decide), wr_ne (by decide), wr_ne (by decide)]; exact hv
      obtain ⟨c1, c2, c3, c4, c5, c6⟩ := (hx.fin hb hn).1 L a ho
      refine L_get fX12_9 dX12_text_52 (by decide) sh_159 rfl ?_
      refine E_bipush (v := 14) dX12_text_55 (by decide) ?_
      refine N_iald (j := 14) dX12_text_57 rfl (by decide) hv9 ?_
      rw [h14]
      refine E_bipush (v := 14) dX12_text_58 (by decide) ?_
      refine E_icmp_ne dX12_text_60 (fun c60 => ?_) (fun c60 => ?_)
      · refine E_aload_n dX12_text_66 rfl ?_
        refine L_get fX12_9 dX12_text_67 (by decide) sh_159 rfl ?_
        refine E_bipush (v := 14) dX12_text_70 (by decide) ?_
        refine N_iald (j := 14) dX12_text_72 rfl (by decide) hv9 ?_
        rw [h14]
        refine E_istore_n dX12_text_73 (by decide) ?_
        refine E_aload_n dX12_text_74 rfl ?_
        refine L_get fX12_9 dX12_text_75 (by decide) sh_159 rfl ?_
        refine E_bipush (v := 96) dX12_text_78 (by decide) ?_
        refine E_ic (v := 2) dX12_text_80 (by decide) ?_
        refine E_iload_n dX12_text_81 rfl ?_
        refine E_imul dX12_text_82 ?_
        refine E_iadd dX12_text_83 ?_
        refine E_sipush (v := 1000) dX12_text_84 (by decide) ?_
        refine E_aload_n dX12_text_87 rfl ?_
        refine L_get fX12_231 dX12_text_88 (by decide) sh_159 rfl ?_
        rw [wr_at, pk_un (by decide), g4.1 14 (by omega) (by omega) (by omega) (by omega), e15]
        refine E_imul dX12_text_91 ?_
        rw [show (1000 : Int32) * nI i = nI (1000 * i) from pk_mul 1000 i]
        refine E_aload_n dX12_text_92 rfl ?_
        refine L_get fX12_243 dX12_text_93 (by decide) sh_159 rfl ?_
        rw [wr_at, pk_un (by decide), g1]
        refine E_iadd dX12_text_96 ?_
        rw [nI_add]
        have ht : t < 14 := by
          have : ¬ t = 14 := fun z => c60 (by rw [z]; rfl)
          omega
        refine N_iast (j := (96 + 2 * t)) dX12_text_97 (by rw [show (2 : Int32) * nI t = nI (2 * t) from pk_mul 2 t, show (96 : Int32) + nI (2 * t) = nI (96 + 2 * t) from nI_add 96 _]) (by omega) hv9 (fun S97 h97 f97 => ?_)
        refine E_aload_n dX12_text_98 rfl ?_
        refine L_get fX12_9 dX12_text_99 (by decide) sh_159 rfl ?_
        refine E_bipush (v := 96) dX12_text_102 (by decide) ?_
        refine E_ic (v := 2) dX12_text_104 (by decide) ?_
        refine E_iload_n dX12_text_105 rfl ?_
        refine E_imul dX12_text_106 ?_
        refine E_iadd dX12_text_107 ?_
        refine E_ic (v := 1) dX12_text_108 (by decide) ?_
        refine E_iadd dX12_text_109 ?_
        refine E_aload_n dX12_text_110 rfl ?_
        refine L_get fX12_249 dX12_text_111 (by decide) sh_159 rfl ?_
        rw [f97 159 (by decide) (by decide) (by decide), wr_at, pk_un (by decide), g3]
        refine N_iast (j := (97 + 2 * t)) dX12_text_114 (by rw [show (2 : Int32) * nI t = nI (2 * t) from pk_mul 2 t, show (96 : Int32) + nI (2 * t) = nI (96 + 2 * t) from nI_add 96 _, nI_1, show 96 + 2 * t + 1 = 97 + 2 * t by omega]) (by omega) h97 (fun S114 h114 f114 => ?_)
        refine E_ic (v := 0) dX12_text_115 (by decide) ?_
        refine E_istore_n dX12_text_116 (by decide) ?_
        refine E.loc (by exact ⟨rfl, rfl, rfl, trivial⟩) (l_X12_text ht (L := L) (by omega) L.length S114 0 0 rfl (Nat.zero_add _) (h114.trans cp_0.symm) ?_ ?_ (fun S9 h9 f9 => ?_))
        · rw [f114 159 (by decide) (by decide) (by decide), f97 159 (by decide) (by decide) (by decide), wr_at, pk_un (by decide), g1]
        · rw [f114 169 (by decide) (by decide) (by decide), f97 169 (by decide) (by decide) (by decide), wr_ne (by decide)]; exact g2
        · refine t151_X12 h9 (by rw [cpV, if_neg (by omega), pk_un (by omega), pk_un (by omega)]; exact h14) (fun S8 h8 f8 => ?_)
          have f99 : MF (wr S22 159 8 0) S8 := ((f97.tr f114).tr f9).tr f8
          refine hq2 L a ho ht S8 (by rw [h8, ek]; rfl) (x22.tr f99.x) ?_
          rw [f99 159 (by decide) (by decide) (by decide), wr_at, pk_us]
      · refine E_ldc dX12_text_63 kX12_108 ?_
        refine E_iret dX12_text_65 rfl rfl ?_
        have e14 : t = 14 := nI_inj (by omega) (by decide) c60
        exact hq1 L a ho e14 _ hv9 x22 (by rw [wr_at, pk_us])
    · refine E_if_eq dX12_text_25 (fun _ => ?_) (fun c => absurd (by decide) c)
      refine E_ic (v := 0) dX12_text_32 (by decide) ?_
      refine E_istore_n dX12_text_33 (by decide) ?_
      refine E_aload_n dX12_text_34 rfl ?_
      refine E_ic (v := 0) dX12_text_35 (by decide) ?_
      refine L_puti fX12_206 dX12_text_36 (by decide) sh_159 (Nat.le_of_ble_eq_true rfl) rfl ?_
      refine E_iload_n dX12_text_39 rfl ?_
      refine E_if_ne dX12_text_40 (fun c => absurd rfl c) (fun _ => ?_)
      refine E_bipush (v := (-100)) dX12_text_43 (by decide) ?_
      refine E_aload_n dX12_text_45 rfl ?_
      refine L_get fX12_213 dX12_text_46 (by decide) sh_159 rfl ?_
      refine E_isub dX12_text_49 ?_
      refine E_iret dX12_text_50 rfl rfl ?_
      rw [wr_at, pk_un (by decide), g1]
      refine hq0 ho _ ?_ ((x15.tr g4.x).tr (XFr.w (by decide) (by decide))) (by rw [wr_at, pk_us])
      rw [wr_ne (by decide), g4.2 160 (by decide) (by decide) (by decide) (by decide), f15.2 160 (by decide), f11.2 160 (by decide), wr_ne (by decide), wr_ne (by decide)]; exact hv
  · refine E_if_eq dX12_text_18 (fun _ => ?_) (fun c => absurd (by decide) c)
    refine E_ic (v := 0) dX12_text_32 (by decide) ?_
    refine E_istore_n dX12_text_33 (by decide) ?_
    refine E_aload_n dX12_text_34 rfl ?_
    refine E_ic (v := 0) dX12_text_35 (by decide) ?_
    refine L_puti fX12_206 dX12_text_36 (by decide) sh_159 (Nat.le_of_ble_eq_true rfl) rfl ?_
    refine E_iload_n dX12_text_39 rfl ?_
    refine E_if_ne dX12_text_40 (fun c => absurd rfl c) (fun _ => ?_)
    refine E_bipush (v := (-100)) dX12_text_43 (by decide) ?_
    refine E_aload_n dX12_text_45 rfl ?_
    refine L_get fX12_213 dX12_text_46 (by decide) sh_159 rfl ?_
    refine E_isub dX12_text_49 ?_
    refine E_iret dX12_text_50 rfl rfl ?_
    have eo := hx.1 h0
    rw [eo] at hq0
    rw [wr_at, pk_un (by decide), k11.2.1]
    refine hq0 rfl _ ?_ (x11.tr (XFr.w (by decide) (by decide))) (by rw [wr_at, pk_us])
    rw [wr_ne (by decide), f11.2 160 (by decide), wr_ne (by decide), wr_ne (by decide)]; exact hv
end Tt
