/-! the reference's key, and its text -/
abbrev klE (b : Nat → Int32) (s e i : Nat) : Prop := e - s = lnS.getD i 0 ∧ ∀ k, k < lnS.getD i 0 → b (s + k) = sby i k
def keF (b : Nat → Int32) (s e : Nat) (t : Int32) : Option Nat := if t = 256 then (if klE b s e 0 then some 0 else if klE b s e 1 then some 1 else if klE b s e 2 then some 2 else none) else none
def katL : List Nat := [0, 6, 9, 13]
def KYS (S : SS) : Prop := (∀ i, i < 4 → S 168 i = nI (katL.getD i 0)) ∧ ∀ i k, i < 3 → k < lnS.getD i 0 → S 167 (katL.getD i 0 + k) = sby i k
theorem kat_le : ∀ i : Fin 3, katL.getD i.val 0 ≤ katL.getD (i.val + 1) 0 ∧ katL.getD (i.val + 1) 0 - katL.getD i.val 0 = lnS.getD i.val 0 ∧ katL.getD i.val 0 + lnS.getD i.val 0 ≤ 13 ∧ lnS.getD i.val 0 ≤ 6 ∧ 3 ≤ lnS.getD i.val 0 := by decide +kernel
def KFr (S S' : SS) : Prop := (∀ j, (j < 9 ∨ 14 < j) → S' 159 j = S 159 j) ∧ ∀ k, k ≠ 159 → S' k = S k
theorem KFr.g {S S' S'' : SS} (h : KFr S S') (h' : GFr S' S'') : KFr S S'' := ⟨fun j a => (h'.1 j (by omega)).trans (h.1 j a), fun k a => (h'.2 k a).trans (h.2 k a)⟩
section Ky
variable {Θ : Th} {d : Nat} {S : SS} {b : Nat → Int32} {n : Nat}
theorem l55_X12 {Q : Int32 → HP → Prop} (hT : MT S b n) (hK : KYS S) (hn : n ≤ 96) {s e : Nat} {t : Int32} (hk : MKr S b s e t) (hto : TkO b n s e t) {i : Nat} (hi : i < 3) (K : E Θ (d + 2) 0 0 yX12_takesKey cX12_takesKey 5 (some .boolean) 0 0 183 (lay Θ S) 106 [(3, .int (if klE b s e i then 1 else 0)), (1, .int (nI i)), (0, .ref (tb Θ + 159))] [] (Qi Q)) : ∀ (f : Nat) (x3 x4 : Int32) (k : Nat), x4 = nI k → k + f = lnS.getD i 0 → x3 = (if (e - s = lnS.getD i 0 ∧ ∀ j, j < k → b (s + j) = sby i j) then 1 else 0) → E Θ (d + 2) 0 0 yX12_takesKey cX12_takesKey 5 (some .boolean) 0 0 183 (lay Θ S) 55 [(4, .int x4), (3, .int x3), (2, .int (nI (lnS.getD i 0))), (1, .int (nI i)), (0, .ref (tb Θ + 159))] [] (Qi Q) := by
  have hc := kat_le ⟨i, hi⟩
  simp only at hc
  have hse := hto.1
  have hen := hto.2.1
  intro f
  induction f with
  | zero =>
    intro x3 x4 k hx4 hkf hx3
    refine E_iload dX12_takesKey_55 rfl ?_
    refine E_iload_n dX12_takesKey_57 rfl ?_
    refine E_icmp_ge dX12_takesKey_58 (fun _ => ?_) (fun c => absurd (by rw [hx4]; exact nI_le (by omega) (by omega)) c)
    obtain rfl : k = lnS.getD i 0 := by omega
    rw [hx3]
    exact E.loc (by exact ⟨rfl, rfl, rfl, trivial⟩) K
  | succ f ih =>
    intro x3 x4 k hx4 hkf hx3
    by_cases hP : (e - s = lnS.getD i 0 ∧ ∀ j, j < k → b (s + j) = sby i j)
    · refine E_iload dX12_takesKey_55 rfl ?_
      refine E_iload_n dX12_takesKey_57 rfl ?_
      refine E_icmp_ge dX12_takesKey_58 (fun c => absurd c (fun z => absurd ((nI_leI (by omega) (by omega)).mp (hx4 ▸ z)) (by omega))) (fun _ => ?_)
      refine E_iload_n dX12_takesKey_61 rfl ?_
      refine E_if_eq dX12_takesKey_62 (fun c => absurd c (by rw [hx3, if_pos hP]; decide)) (fun _ => ?_)
      refine E_aload_n dX12_takesKey_65 rfl ?_
      refine L_get fX12_29 dX12_takesKey_66 (by decide) sh_159 rfl ?_
      refine E_aload_n dX12_takesKey_69 rfl ?_
      refine L_get fX12_213 dX12_takesKey_70 (by decide) sh_159 rfl ?_
      rw [hk.2.1]
      refine E_iload dX12_takesKey_73 rfl ?_
      refine E_iadd dX12_takesKey_75 ?_
      refine L_iald (j := (s + k)) dX12_takesKey_76 (by decide) sh_166 (by rw [hx4]; exact nI_add s k) (by omega) (by decide) ?_
      rw [hT.2 (s + k) (by omega)]
      refine E_aload_n dX12_takesKey_77 rfl ?_
      refine L_get fX12_32 dX12_takesKey_78 (by decide) sh_159 rfl ?_
      refine E_aload_n dX12_takesKey_81 rfl ?_
      refine L_get fX12_36 dX12_takesKey_82 (by decide) sh_159 rfl ?_
      refine E_iload_n dX12_takesKey_85 rfl ?_
      refine L_iald (j := i) dX12_takesKey_86 (by decide) sh_168 rfl (by omega) (by decide) ?_
      rw [hK.1 i (by omega)]
      refine E_iload dX12_takesKey_87 rfl ?_
      refine E_iadd dX12_takesKey_89 ?_
      refine L_cald (j := (katL.getD i 0 + k)) dX12_takesKey_90 (by decide) sh_167 (by rw [hx4]; exact nI_add _ k) (by omega) (by decide) ?_
      rw [hK.2 i k hi (by omega)]
      refine E_icmp_ne dX12_takesKey_91 (fun c91 => ?_) (fun c91 => ?_)
      · refine E_ic (v := 0) dX12_takesKey_98 (by decide) ?_
        refine E_istore_n dX12_takesKey_99 (by decide) ?_
        refine E_iinc (v := 1) dX12_takesKey_100 rfl (by decide) (by decide) ?_
        refine E_goto dX12_takesKey_103 ?_
        exact E.loc (by exact ⟨rfl, rfl, rfl, rfl, rfl, trivial⟩) (ih _ _ (k + 1) (by rw [hx4, nI_1]) (by omega) (by rw [if_neg (fun z => c91 (z.2 k (by omega)))]))
      · refine E_ic (v := 1) dX12_takesKey_94 (by decide) ?_
        refine E_goto dX12_takesKey_95 ?_
        refine E_istore_n dX12_takesKey_99 (by decide) ?_
        refine E_iinc (v := 1) dX12_takesKey_100 rfl (by decide) (by decide) ?_
        refine E_goto dX12_takesKey_103 ?_
        exact E.loc (by exact ⟨rfl, rfl, rfl, rfl, rfl, trivial⟩) (ih _ _ (k + 1) (by rw [hx4, nI_1]) (by omega) (by rw [if_pos ⟨hP.1, fun j hj => (Nat.lt_succ_iff_lt_or_eq.mp hj).elim (hP.2 j) (fun z => z ▸ c91)⟩]))
    · refine E_iload dX12_takesKey_55 rfl ?_
      refine E_iload_n dX12_takesKey_57 rfl ?_
      refine E_icmp_ge dX12_takesKey_58 (fun c => absurd c (fun z => absurd ((nI_leI (by omega) (by omega)).mp (hx4 ▸ z)) (by omega))) (fun _ => ?_)
      refine E_iload_n dX12_takesKey_61 rfl ?_
      refine E_if_eq dX12_takesKey_62 (fun _ => ?_) (fun c => absurd (by rw [hx3, if_neg hP]) c)
      have ex : x3 = (if klE b s e i then 1 else 0) := by
        rw [hx3, if_neg hP, if_neg (fun z => hP ⟨z.1, fun j hj => z.2 j (by omega)⟩)]
      rw [ex]
      exact E.loc (by exact ⟨rfl, rfl, rfl, trivial⟩) K
theorem t106_X12 {Q : Int32 → HP → Prop} (hT : MT S b n) (hK : KYS S) (hn : n ≤ 96) {s e : Nat} {t : Int32} (hk : MKr S b s e t) (hto : TkO b n s e t) {i : Nat} (hi : i < 3) (hb : byOk b n) (h6 : t = 256) (hq : klE b s e i → ∀ S', MKr S' b (nxS b n e) (nxE b n e) (nxK b n e t) → S' 159 14 = nI i → KFr S S' → Q 1 (lay Θ S')) (hno : ¬ klE b s e i → E Θ (d + 2) 0 0 yX12_takesKey cX12_takesKey 5 (some .boolean) 0 0 183 (lay Θ S) 12 [(1, .int (nI (i + 1))), (0, .ref (tb Θ + 159))] [] (Qi Q)) : E Θ (d + 2) 0 0 yX12_takesKey cX12_takesKey 5 (some .boolean) 0 0 183 (lay Θ S) 106 [(3, .int (if klE b s e i then 1 else 0)), (1, .int (nI i)), (0, .ref (tb Θ + 159))] [] (Qi Q) := by
  by_cases hp : klE b s e i
  · refine E_iload_n dX12_takesKey_106 rfl ?_
    refine E_if_eq dX12_takesKey_107 (fun c => absurd c (by rw [if_pos hp]; decide)) (fun _ => ?_)
    refine E_aload_n dX12_takesKey_110 rfl ?_
    refine E_iload_n dX12_takesKey_111 rfl ?_
    refine L_puti fX12_231 dX12_takesKey_112 (by decide) sh_159 (Nat.le_of_ble_eq_true rfl) rfl ?_
    refine E_aload_n dX12_takesKey_115 rfl ?_
    have f1 : KFr S (wr S 159 14 (nI i)) := ⟨fun j a => by rw [wr_at, pk_un (by omega)], fun k a => wr_ne a⟩
    have k1 : MKr (wr S 159 14 (nI i)) b s e t := hk.sf (fun j h1 h2 => by rw [wr_at, pk_un (by omega)])
    have t1 : MT (wr S 159 14 (nI i)) b n := ⟨by rw [f1.1 8 (by omega)]; exact hT.1, fun k hk => by rw [f1.2 166 (by decide)]; exact hT.2 k hk⟩
    refine E_V0v vX12_234_12 dX12_takesKey_116 (Nat.le_of_ble_eq_true rfl) (by decide) (sh_159 _) (s_X12_go t1 hb hn hto.2.1 k1.1 (k1.en (by rw [h6]; decide) (by rw [h6]; decide)) (fun S9 k9 f9 => ?_))
    refine E_ic (v := 1) dX12_takesKey_119 (by decide) ?_
    refine E_iret dX12_takesKey_120 rfl rfl ?_
    exact hq hp S9 k9 (by rw [f9.1 14 (by omega), wr_at, pk_us]) (f1.g f9)
  · refine E_iload_n dX12_takesKey_106 rfl ?_
    refine E_if_eq dX12_takesKey_107 (fun _ => ?_) (fun c => absurd (by rw [if_neg hp]) c)
    refine E_iinc (v := 1) dX12_takesKey_121 rfl (by decide) (by decide) ?_
    refine E_goto dX12_takesKey_124 ?_
    rw [nI_1]
    exact E.loc (by exact ⟨rfl, rfl, trivial⟩) (hno hp)
theorem t12_X12 {Q : Int32 → HP → Prop} (hT : MT S b n) (hK : KYS S) (hn : n ≤ 96) {s e : Nat} {t : Int32} (hk : MKr S b s e t) (hto : TkO b n s e t) {i : Nat} (hi : i < 3) (hb : byOk b n) (h6 : t = 256) (hq : klE b s e i → ∀ S', MKr S' b (nxS b n e) (nxE b n e) (nxK b n e t) → S' 159 14 = nI i → KFr S S' → Q 1 (lay Θ S')) (hno : ¬ klE b s e i → E Θ (d + 2) 0 0 yX12_takesKey cX12_takesKey 5 (some .boolean) 0 0 183 (lay Θ S) 12 [(1, .int (nI (i + 1))), (0, .ref (tb Θ + 159))] [] (Qi Q)) : E Θ (d + 2) 0 0 yX12_takesKey cX12_takesKey 5 (some .boolean) 0 0 183 (lay Θ S) 12 [(1, .int (nI i)), (0, .ref (tb Θ + 159))] [] (Qi Q) := by
  have K := t106_X12 hT hK hn hk hto hi hb h6 hq hno
  have hc := kat_le ⟨i, hi⟩
  simp only at hc
  have hse := hto.1
  have hen := hto.2.1
  refine E_iload_n dX12_takesKey_12 rfl ?_
  refine E_ic (v := 3) dX12_takesKey_13 (by decide) ?_
  refine E_icmp_ge dX12_takesKey_14 (fun c => absurd c (fun z => absurd ((nI_leI (a := 3) (by decide) (by omega)).mp z) (by omega))) (fun _ => ?_)
  refine E_aload_n dX12_takesKey_17 rfl ?_
  refine L_get fX12_36 dX12_takesKey_18 (by decide) sh_159 rfl ?_
  refine E_iload_n dX12_takesKey_21 rfl ?_
  refine E_ic (v := 1) dX12_takesKey_22 (by decide) ?_
  refine E_iadd dX12_takesKey_23 ?_
  refine L_iald (j := (i + 1)) dX12_takesKey_24 (by decide) sh_168 (nI_1 i) (by omega) (by decide) ?_
  rw [hK.1 (i + 1) (by omega)]
  refine E_aload_n dX12_takesKey_25 rfl ?_
  refine L_get fX12_36 dX12_takesKey_26 (by decide) sh_159 rfl ?_
  refine E_iload_n dX12_takesKey_29 rfl ?_
  refine L_iald (j := i) dX12_takesKey_30 (by decide) sh_168 rfl (by omega) (by decide) ?_
  rw [hK.1 i (by omega)]
  refine E_isub dX12_takesKey_31 ?_
  rw [pk_sub hc.1, hc.2.1]
  refine E_istore_n dX12_takesKey_32 (by decide) ?_
  refine E_iload_n dX12_takesKey_33 rfl ?_
  refine E_aload_n dX12_takesKey_34 rfl ?_
  refine L_get fX12_210 dX12_takesKey_35 (by decide) sh_159 rfl ?_
  rw [hk.1]
  refine E_aload_n dX12_takesKey_38 rfl ?_
  refine L_get fX12_213 dX12_takesKey_39 (by decide) sh_159 rfl ?_
  rw [hk.2.1]
  refine E_isub dX12_takesKey_42 ?_
  rw [pk_sub hse]
  refine E_icmp_ne dX12_takesKey_43 (fun c43 => ?_) (fun c43 => ?_)
  · refine E_ic (v := 0) dX12_takesKey_50 (by decide) ?_
    refine E_istore_n dX12_takesKey_51 (by decide) ?_
    refine E_ic (v := 0) dX12_takesKey_52 (by decide) ?_
    refine E_istore dX12_takesKey_53 (by decide) ?_
    exact E.loc (by exact ⟨rfl, rfl, rfl, rfl, rfl, trivial⟩) (l55_X12 hT hK hn hk hto hi K _ _ _ 0 rfl (Nat.zero_add _) (by rw [if_neg (fun z => c43 (by rw [z.1]))]))
  · refine E_ic (v := 1) dX12_takesKey_46 (by decide) ?_
    refine E_goto dX12_takesKey_47 ?_
    refine E_istore_n dX12_takesKey_51 (by decide) ?_
    refine E_ic (v := 0) dX12_takesKey_52 (by decide) ?_
    refine E_istore dX12_takesKey_53 (by decide) ?_
    exact E.loc (by exact ⟨rfl, rfl, rfl, rfl, rfl, trivial⟩) (l55_X12 hT hK hn hk hto hi K _ _ _ 0 rfl (Nat.zero_add _) (by rw [if_pos ⟨(nI_inj (by omega) (by omega) c43).symm, fun j hj => absurd hj (by omega)⟩]))
theorem s_X12_takesKey {Q : Int32 → HP → Prop} (hT : MT S b n) (hK : KYS S) (hn : n ≤ 96) {s e : Nat} {t : Int32} (hk : MKr S b s e t) (hto : TkO b n s e t) (hb : byOk b n) (hq : (keF b s e t = none → Q 0 (lay Θ S)) ∧ ∀ i, keF b s e t = some i → ∀ S', MKr S' b (nxS b n e) (nxE b n e) (nxK b n e t) → S' 159 14 = nI i → KFr S S' → Q 1 (lay Θ S')) : C Θ (d + 2) 0 0 yX12_takesKey cX12_takesKey 5 (some .boolean) [.ref (tb Θ + 159)] 183 (lay Θ S) (Qi Q) := by
  refine C_of rfl rfl (Nat.le_of_ble_eq_true rfl) ?_
  by_cases h6 : t = 256
  · refine E_aload_n dX12_takesKey_0 rfl ?_
    refine L_get fX12_219 dX12_takesKey_1 (by decide) sh_159 rfl ?_
    rw [hk.2.2.1]
    refine E_ic (v := 1) dX12_takesKey_4 (by decide) ?_
    refine E_icmp_eq dX12_takesKey_5 (fun _ => ?_) (fun c => absurd (by rw [h6]; rfl) c)
    refine E_ic (v := 0) dX12_takesKey_10 (by decide) ?_
    refine E_istore_n dX12_takesKey_11 (by decide) ?_
    refine E.loc (ls' := [(1, .int (nI 0)), (0, .ref (tb Θ + 159))]) (by exact ⟨rfl, rfl, trivial⟩) (t12_X12 hT hK hn hk hto (by decide) hb h6 (fun p0 S9 a1 a2 a3 => hq.2 0 (by rw [keF, if_pos h6, if_pos p0]) S9 a1 a2 a3) (fun n0 => ?_))
    refine t12_X12 hT hK hn hk hto (by decide) hb h6 (fun p0 S9 a1 a2 a3 => hq.2 1 (by rw [keF, if_pos h6, if_neg n0, if_pos p0]) S9 a1 a2 a3) (fun n1 => ?_)
    refine t12_X12 hT hK hn hk hto (by decide) hb h6 (fun p0 S9 a1 a2 a3 => hq.2 2 (by rw [keF, if_pos h6, if_neg n0, if_neg n1, if_pos p0]) S9 a1 a2 a3) (fun n2 => ?_)
    refine E_iload_n dX12_takesKey_12 rfl ?_
    refine E_ic (v := 3) dX12_takesKey_13 (by decide) ?_
    refine E_icmp_ge dX12_takesKey_14 (fun _ => ?_) (fun c => absurd (by decide) c)
    refine E_ic (v := 0) dX12_takesKey_127 (by decide) ?_
    refine E_iret dX12_takesKey_128 rfl rfl ?_
    exact hq.1 (by rw [keF, if_pos h6, if_neg n0, if_neg n1, if_neg n2])
  · have n1 : ¬ rtk s e t = 1 := by
      unfold rtk
      repeat' split
      all_goals first | decide | (exfalso; exact h6 (by assumption))
    refine E_aload_n dX12_takesKey_0 rfl ?_
    refine L_get fX12_219 dX12_takesKey_1 (by decide) sh_159 rfl ?_
    rw [hk.2.2.1]
    refine E_ic (v := 1) dX12_takesKey_4 (by decide) ?_
    refine E_icmp_eq dX12_takesKey_5 (fun c => absurd c n1) (fun _ => ?_)
    refine E_ic (v := 0) dX12_takesKey_8 (by decide) ?_
    refine E_iret dX12_takesKey_9 rfl rfl ?_
    exact hq.1 (by rw [keF, if_neg h6])
theorem PIn_0 {key s e : Nat} {t : Int32} (hto : TkO b n s e t) (hn : n ≤ 96) (hs : 3 ≤ s) : PIn b n key (true, 0, 0, [], [], 0, fun _ => false, s, e, t) :=
  ⟨hto, hn, Nat.zero_le _, hs, rfl, Nat.zero_le _, rfl, Nat.zero_le _, fun w h => absurd h List.not_mem_nil, fun w h => absurd h List.not_mem_nil, rfl, Nat.zero_le _, trivial, trivial⟩
theorem s_X12_takesE {Q : Int32 → HP → Prop} (hT : MT S b n) (hb : byOk b n) (hn : n ≤ 96) {s e key : Nat} {t : Int32} (hk : MKr S b s e t) (hto : TkO b n s e t) (hs : 3 ≤ s) (hkey : S 159 14 = nI key) (h3 : key < 3) {f : Nat} {o : OU} (hr : Rn b n key f (true, 0, 0, [], [], 0, fun _ => false, s, e, t) o) (hq1 : ∀ C' a', o.1 = some (C', a') → ∀ S', S' 159 18 = nI C'.length → arL (S' 169) C' → S' 159 19 = nI a' → PFr S S' → Q 1 (lay Θ S')) (hq0 : o.1 = none → ∀ S', S' 159 10 = nI o.2 → PFr S S' → Q 0 (lay Θ S')) : C Θ (d + 3) 0 0 yX12_takesE cX12_takesE 5 (some .boolean) [.ref (tb Θ + 159)] 183 (lay Θ S) (Qi Q) := by
  refine C_of rfl rfl (Nat.le_of_ble_eq_true rfl) ?_
  refine E_ic (v := 0) dX12_takesE_0 (by decide) ?_
  refine E_istore_n dX12_takesE_1 (by decide) ?_
  refine E_ic (v := 0) dX12_takesE_2 (by decide) ?_
  refine E_istore_n dX12_takesE_3 (by decide) ?_
  refine E_ic (v := 1) dX12_takesE_4 (by decide) ?_
  refine E_istore_n dX12_takesE_5 (by decide) ?_
  refine E_aload_n dX12_takesE_6 rfl ?_
  refine E_ic (v := 0) dX12_takesE_7 (by decide) ?_
  refine L_puti fX12_243 dX12_takesE_8 (by decide) sh_159 (Nat.le_of_ble_eq_true rfl) rfl ?_
  refine E_aload_n dX12_takesE_11 rfl ?_
  refine E_ic (v := 0) dX12_takesE_12 (by decide) ?_
  refine L_puti fX12_249 dX12_takesE_13 (by decide) sh_159 (Nat.le_of_ble_eq_true rfl) rfl ?_
  refine E_aload_n dX12_takesE_16 rfl ?_
  refine E_ic (v := 0) dX12_takesE_17 (by decide) ?_
  refine L_puti fX12_237 dX12_takesE_18 (by decide) sh_159 (Nat.le_of_ble_eq_true rfl) rfl ?_
  refine E_aload_n dX12_takesE_21 rfl ?_
  refine L_get fX12_45 dX12_takesE_22 (by decide) sh_159 rfl ?_
  refine E_ic (v := 0) dX12_takesE_25 (by decide) ?_
  refine E_ic (v := 0) dX12_takesE_26 (by decide) ?_
  refine L_zast (j := 0) dX12_takesE_27 (by decide) sh_171 rfl (by decide) (by decide) ?_
  rw [show vp_nar .boolean 0 = 0 from rfl]
  have f1 : PFr S (wr (wr (wr (wr S 159 18 0) 159 19 0) 159 21 0) 171 0 0) := (PFr.w (Or.inl rfl)).tr ((PFr.w (Or.inr (Or.inl rfl))).tr ((PFr.w (Or.inr (Or.inr rfl))).tr (PFr.w2 (Or.inr (Or.inr rfl)))))
  refine E.loc (ls' := [(3, .int 1), (2, .int 0), (1, .int 0), (0, .ref (tb Θ + 159))]) (by exact ⟨rfl, rfl, rfl, rfl, trivial⟩) (l_X12_takesE hb hn h3 f true 0 0 [] [] 0 (fun _ => false) s e t o _ 0 0 1 hr (PIn_0 hto hn hs) (hT.pf f1) (hk.sf (fun j h1 h2 => ?_)) ⟨?_, ?_, trivial, trivial⟩ ?_ (fun q hq => ?_) ?_ rfl rfl rfl (fun C' a' ho S' g1 g2 g3 g4 => hq1 C' a' ho S' g1 g2 g3 (f1.tr g4)) (fun ho S' g1 g4 => hq0 ho S' g1 (f1.tr g4)))
  · rw [wr_ne (by decide), wr_at, pk_un (by omega), wr_at, pk_un (by omega), wr_at, pk_un (by omega)]
  · rw [wr_ne (by decide), wr_at, pk_us]; rfl
  · rw [wr_ne (by decide), wr_at, pk_un (by omega), wr_at, pk_un (by omega), wr_at, pk_us]; rfl
  · rw [wr_ne (by decide), wr_at, pk_un (by omega), wr_at, pk_us]; rfl
  · rw [wr_at, show q = 0 by omega, pk_us]; rfl
  · rw [f1.1 14 (by omega) (by omega) (by omega) (by omega)]; exact hkey
end Ky
