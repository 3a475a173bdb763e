/-! the reference's tokens -/
def MT (S : SS) (b : Nat → Int32) (n : Nat) : Prop := S 159 8 = nI n ∧ ∀ k, k < n → S 166 k = b k
def GFr (S S' : SS) : Prop := (∀ j, (j < 9 ∨ 13 < j) → S' 159 j = S 159 j) ∧ ∀ k, k ≠ 159 → S' k = S k
theorem GFr.rf {S : SS} : GFr S S := ⟨fun _ _ => rfl, fun _ _ => rfl⟩
theorem GFr.tr {S S' S'' : SS} (h : GFr S S') (h' : GFr S' S'') : GFr S S'' := ⟨fun j a => (h'.1 j a).trans (h.1 j a), fun k a => (h'.2 k a).trans (h.2 k a)⟩
theorem GFr.w {S : SS} {j : Nat} {x : Int32} (h1 : 9 ≤ j) (h2 : j ≤ 13) : GFr S (wr S 159 j x) := ⟨fun i hi => by rw [wr_at, pk_un (by omega)], fun k hk => wr_ne hk⟩
theorem MT.gf {S S' : SS} {b : Nat → Int32} {n : Nat} (h : MT S b n) (hf : GFr S S') : MT S' b n := ⟨by rw [hf.1 8 (by omega)]; exact h.1, fun k hk => by rw [hf.2 166 (by omega)]; exact h.2 k hk⟩
def rtk (s e : Nat) (t : Int32) : Int32 := if t = 258 then 0 else if t = 256 then 1 else if t = 257 then (if e - s ≤ 4 then 2 else 4) else if t = 259 then 4 else 3
/-- what the last word's end is to a place and a token -/
def EnO (x : Int32) (e : Nat) (t : Int32) : Prop := (isWd t → x = nI e) ∧ (¬ isWd t → x < nI e)
def MKr (S : SS) (b : Nat → Int32) (s e : Nat) (t : Int32) : Prop := S 159 9 = nI e ∧ S 159 10 = nI s ∧ S 159 11 = rtk s e t ∧ (t = 256 → S 159 12 = b s) ∧ (t = 257 → e - s ≤ 4 → S 159 12 = nuF b s (e - s)) ∧ (¬ t = 258 → ¬ t = 259 → ¬ isWd t → S 159 12 = b s) ∧ (¬ t = 259 → ¬ t = 258 → EnO (S 159 13) e t)
theorem soT_6 : ∀ q : Fin 256, (soT (nI q.val) = 256 ↔ 97 ≤ nI q.val ∧ nI q.val ≤ 122) ∧ (soT (nI q.val) = 257 ↔ 48 ≤ nI q.val ∧ nI q.val ≤ 57) := by decide +kernel
theorem so_let {b : Nat → Int32} {n p : Nat} (hb : byOk b n) (h : p < n) : soT (b p) = 256 ↔ 97 ≤ b p ∧ b p ≤ 122 := by
  obtain ⟨q, hq, e⟩ := hb p h
  rw [e]
  exact (soT_6 ⟨q, hq⟩).1
theorem so_fig {b : Nat → Int32} {n p : Nat} (hb : byOk b n) (h : p < n) : soT (b p) = 257 ↔ 48 ≤ b p ∧ b p ≤ 57 := by
  obtain ⟨q, hq, e⟩ := hb p h
  rw [e]
  exact (soT_6 ⟨q, hq⟩).2
theorem close_iff {x t : Int32} {e s n : Nat} (h : EnO x e t) (hes : e ≤ s) (hsn : s ≤ n) (hn : n ≤ 96) : nI s = x ↔ (isWd t ∧ s = e) := by
  constructor
  · intro z
    by_cases w : isWd t
    · have := h.1 w
      rw [← z] at this
      exact ⟨w, nI_inj (by omega) (by omega) this⟩
    · have := h.2 w
      rw [← z] at this
      exact absurd ((nI_ltI (by omega) (by omega)).mp this) (by omega)
  · rintro ⟨w, rfl⟩
    exact (h.1 w).symm
section Gr
variable {Θ : Th} {d : Nat} {S : SS} {b : Nat → Int32} {n : Nat}
theorem s_X12_isLetter {Q : Int32 → HP → Prop} (hT : MT S b n) (hb : byOk b n) (hn : n ≤ 96) {p : Nat} (hp96 : p ≤ 96) (ht : p < n → soT (b p) = 256 → Q 1 (lay Θ S)) (hf : ¬ (p < n ∧ soT (b p) = 256) → Q 0 (lay Θ S)) : C Θ d 0 0 yX12_isLetter cX12_isLetter 2 (some .boolean) [.ref (tb Θ + 159), .int (nI p)] 183 (lay Θ S) (Qi Q) := by
  refine C_of rfl rfl (Nat.le_of_ble_eq_true rfl) ?_
  refine E_iload_n dX12_isLetter_0 rfl ?_
  refine E_aload_n dX12_isLetter_1 rfl ?_
  refine L_get fX12_206 dX12_isLetter_2 (by decide) sh_159 rfl ?_
  rw [hT.1]
  refine E_icmp_ge dX12_isLetter_5 (fun c5 => ?_) (fun c5 => ?_)
  · refine E_ic (v := 0) dX12_isLetter_34 (by decide) ?_
    refine E_iret dX12_isLetter_35 rfl rfl ?_
    exact hf (fun h => absurd ((nI_leI (by omega) (by omega)).mp c5) (by omega))
  · have hp : p < n := (nI_ltI (by omega) (by omega)).mp (i_nle c5)
    refine E_aload_n dX12_isLetter_8 rfl ?_
    refine L_get fX12_29 dX12_isLetter_9 (by decide) sh_159 rfl ?_
    refine E_iload_n dX12_isLetter_12 rfl ?_
    refine L_iald (j := p) dX12_isLetter_13 (by decide) sh_166 rfl (by omega) (by decide) ?_
    rw [hT.2 p (by omega)]
    refine E_bipush (v := 97) dX12_isLetter_14 (by decide) ?_
    refine E_icmp_lt dX12_isLetter_16 (fun c16 => ?_) (fun c16 => ?_)
    · refine E_ic (v := 0) dX12_isLetter_34 (by decide) ?_
      refine E_iret dX12_isLetter_35 rfl rfl ?_
      exact hf (fun h => absurd ((so_let hb hp).mp h.2).1 (i_le c16))
    · refine E_aload_n dX12_isLetter_19 rfl ?_
      refine L_get fX12_29 dX12_isLetter_20 (by decide) sh_159 rfl ?_
      refine E_iload_n dX12_isLetter_23 rfl ?_
      refine L_iald (j := p) dX12_isLetter_24 (by decide) sh_166 rfl (by omega) (by decide) ?_
      rw [hT.2 p (by omega)]
      refine E_bipush (v := 122) dX12_isLetter_25 (by decide) ?_
      refine E_icmp_gt dX12_isLetter_27 (fun c27 => ?_) (fun c27 => ?_)
      · refine E_ic (v := 0) dX12_isLetter_34 (by decide) ?_
        refine E_iret dX12_isLetter_35 rfl rfl ?_
        exact hf (fun h => absurd ((so_let hb hp).mp h.2).2 (i_le c27))
      · refine E_ic (v := 1) dX12_isLetter_30 (by decide) ?_
        refine E_goto dX12_isLetter_31 ?_
        refine E_iret dX12_isLetter_35 rfl rfl ?_
        exact ht hp ((so_let hb hp).mpr ⟨i_nlt c16, i_nlt c27⟩)
theorem s_X12_isFigure {Q : Int32 → HP → Prop} (hT : MT S b n) (hb : byOk b n) (hn : n ≤ 96) {p : Nat} (hp96 : p ≤ 96) (ht : p < n → soT (b p) = 257 → Q 1 (lay Θ S)) (hf : ¬ (p < n ∧ soT (b p) = 257) → Q 0 (lay Θ S)) : C Θ d 0 0 yX12_isFigure cX12_isFigure 2 (some .boolean) [.ref (tb Θ + 159), .int (nI p)] 183 (lay Θ S) (Qi Q) := by
  refine C_of rfl rfl (Nat.le_of_ble_eq_true rfl) ?_
  refine E_iload_n dX12_isFigure_0 rfl ?_
  refine E_aload_n dX12_isFigure_1 rfl ?_
  refine L_get fX12_206 dX12_isFigure_2 (by decide) sh_159 rfl ?_
  rw [hT.1]
  refine E_icmp_ge dX12_isFigure_5 (fun c5 => ?_) (fun c5 => ?_)
  · refine E_ic (v := 0) dX12_isFigure_34 (by decide) ?_
    refine E_iret dX12_isFigure_35 rfl rfl ?_
    exact hf (fun h => absurd ((nI_leI (by omega) (by omega)).mp c5) (by omega))
  · have hp : p < n := (nI_ltI (by omega) (by omega)).mp (i_nle c5)
    refine E_aload_n dX12_isFigure_8 rfl ?_
    refine L_get fX12_29 dX12_isFigure_9 (by decide) sh_159 rfl ?_
    refine E_iload_n dX12_isFigure_12 rfl ?_
    refine L_iald (j := p) dX12_isFigure_13 (by decide) sh_166 rfl (by omega) (by decide) ?_
    rw [hT.2 p (by omega)]
    refine E_bipush (v := 48) dX12_isFigure_14 (by decide) ?_
    refine E_icmp_lt dX12_isFigure_16 (fun c16 => ?_) (fun c16 => ?_)
    · refine E_ic (v := 0) dX12_isFigure_34 (by decide) ?_
      refine E_iret dX12_isFigure_35 rfl rfl ?_
      exact hf (fun h => absurd ((so_fig hb hp).mp h.2).1 (i_le c16))
    · refine E_aload_n dX12_isFigure_19 rfl ?_
      refine L_get fX12_29 dX12_isFigure_20 (by decide) sh_159 rfl ?_
      refine E_iload_n dX12_isFigure_23 rfl ?_
      refine L_iald (j := p) dX12_isFigure_24 (by decide) sh_166 rfl (by omega) (by decide) ?_
      rw [hT.2 p (by omega)]
      refine E_bipush (v := 57) dX12_isFigure_25 (by decide) ?_
      refine E_icmp_gt dX12_isFigure_27 (fun c27 => ?_) (fun c27 => ?_)
      · refine E_ic (v := 0) dX12_isFigure_34 (by decide) ?_
        refine E_iret dX12_isFigure_35 rfl rfl ?_
        exact hf (fun h => absurd ((so_fig hb hp).mp h.2).2 (i_le c27))
      · refine E_ic (v := 1) dX12_isFigure_30 (by decide) ?_
        refine E_goto dX12_isFigure_31 ?_
        refine E_iret dX12_isFigure_35 rfl rfl ?_
        exact ht hp ((so_fig hb hp).mpr ⟨i_nlt c16, i_nlt c27⟩)
theorem l_X12_go0 {Q : HP → Prop} (hn : n ≤ 96) : ∀ (f : Nat) (S : SS) (p : Nat), S 159 9 = nI p → p + f = n → MT S b n → (∀ S', S' 159 9 = nI (skF b f p) → S' 159 13 = S 159 13 → GFr S S' → E Θ (d + 1) 0 0 yX12_go cX12_go 2 none 0 0 183 (lay Θ S') 38 [(0, .ref (tb Θ + 159))] [] (Qv Q)) → E Θ (d + 1) 0 0 yX12_go cX12_go 2 none 0 0 183 (lay Θ S) 0 [(0, .ref (tb Θ + 159))] [] (Qv Q) := by
  intro f
  induction f with
  | zero =>
    intro S p hp hpn hT K
    refine E_aload_n dX12_go_0 rfl ?_
    refine L_get fX12_210 dX12_go_1 (by decide) sh_159 rfl ?_
    rw [hp]
    refine E_aload_n dX12_go_4 rfl ?_
    refine L_get fX12_206 dX12_go_5 (by decide) sh_159 rfl ?_
    rw [hT.1]
    refine E_icmp_ge dX12_go_8 (fun _ => ?_) (fun c => absurd (nI_le (by omega) (by omega)) c)
    exact K S hp rfl GFr.rf
  | succ f ih =>
    intro S p hp hpn hT K
    refine E_aload_n dX12_go_0 rfl ?_
    refine L_get fX12_210 dX12_go_1 (by decide) sh_159 rfl ?_
    rw [hp]
    refine E_aload_n dX12_go_4 rfl ?_
    refine L_get fX12_206 dX12_go_5 (by decide) sh_159 rfl ?_
    rw [hT.1]
    refine E_icmp_ge dX12_go_8 (fun c => absurd c (nI_ge (by omega) (by omega))) (fun _ => ?_)
    refine E_aload_n dX12_go_11 rfl ?_
    refine L_get fX12_29 dX12_go_12 (by decide) sh_159 rfl ?_
    refine E_aload_n dX12_go_15 rfl ?_
    refine L_get fX12_210 dX12_go_16 (by decide) sh_159 rfl ?_
    rw [hp]
    refine L_iald (j := p) dX12_go_19 (by decide) sh_166 rfl (by omega) (by decide) ?_
    rw [hT.2 p (by omega)]
    refine E_bipush (v := 32) dX12_go_20 (by decide) ?_
    refine E_icmp_ne dX12_go_22 (fun c22 => ?_) (fun c22 => ?_)
    · rw [skF, if_neg c22] at K
      exact K S hp rfl GFr.rf
    · refine E_aload_n dX12_go_25 rfl ?_
      refine E_dup dX12_go_26 rfl ?_
      refine L_get fX12_210 dX12_go_27 (by decide) sh_159 rfl ?_
      rw [hp]
      refine E_ic (v := 1) dX12_go_30 (by decide) ?_
      refine E_iadd dX12_go_31 ?_
      rw [nI_1]
      refine L_puti fX12_210 dX12_go_32 (by decide) sh_159 (Nat.le_of_ble_eq_true rfl) rfl ?_
      refine E_goto dX12_go_35 ?_
      rw [skF, if_pos c22] at K
      exact ih _ (p + 1) (by rw [wr_at, pk_us]) (by omega) (hT.gf (GFr.w (by omega) (by omega))) (fun S9 a9 b9 c9 => K S9 a9 (b9.trans (by rw [wr_at, pk_un (by omega)])) ((GFr.w (by omega) (by omega)).tr c9))
theorem l_X12_go93 {Q : HP → Prop} (hn : n ≤ 96) (hb : byOk b n) {x1 : Int32} : ∀ (f : Nat) (S : SS) (p : Nat), S 159 9 = nI p → p + f = n → MT S b n → (∀ S', S' 159 9 = nI (wdF b 256 f p) → (∀ j, (j < 9 ∨ 9 < j) → S' 159 j = S 159 j) → (∀ k, k ≠ 159 → S' k = S k) → E Θ (d + 1) 0 0 yX12_go cX12_go 2 none 0 0 183 (lay Θ S') 117 [(1, .int x1), (0, .ref (tb Θ + 159))] [] (Qv Q)) → E Θ (d + 1) 0 0 yX12_go cX12_go 2 none 0 0 183 (lay Θ S) 93 [(1, .int x1), (0, .ref (tb Θ + 159))] [] (Qv Q) := by
  intro f
  induction f with
  | zero =>
    intro S p hp hpn hT K
    refine E_aload_n dX12_go_93 rfl ?_
    refine E_aload_n dX12_go_94 rfl ?_
    refine L_get fX12_210 dX12_go_95 (by decide) sh_159 rfl ?_
    rw [hp]
    refine E_V1i vX12_222_12 dX12_go_98 (Nat.le_of_ble_eq_true rfl) (by decide) (sh_159 _) (s_X12_isLetter hT hb hn (by omega) (fun ga gb => ?_) (fun g => ?_))
    · refine E_if_eq dX12_go_101 (fun c => absurd c (by decide)) (fun _ => ?_)
      refine E_aload_n dX12_go_104 rfl ?_
      refine E_dup dX12_go_105 rfl ?_
      refine L_get fX12_210 dX12_go_106 (by decide) sh_159 rfl ?_
      refine E_ic (v := 1) dX12_go_109 (by decide) ?_
      refine E_iadd dX12_go_110 ?_
      refine L_puti fX12_210 dX12_go_111 (by decide) sh_159 (Nat.le_of_ble_eq_true rfl) rfl ?_
      refine E_goto dX12_go_114 ?_
      exact absurd ga (by omega)
    · refine E_if_eq dX12_go_101 (fun _ => ?_) (fun c => absurd (by decide) c)
      exact E.loc (by exact ⟨rfl, rfl, trivial⟩) (K S hp (fun _ _ => rfl) (fun _ _ => rfl))
  | succ f ih =>
    intro S p hp hpn hT K
    refine E_aload_n dX12_go_93 rfl ?_
    refine E_aload_n dX12_go_94 rfl ?_
    refine L_get fX12_210 dX12_go_95 (by decide) sh_159 rfl ?_
    rw [hp]
    refine E_V1i vX12_222_12 dX12_go_98 (Nat.le_of_ble_eq_true rfl) (by decide) (sh_159 _) (s_X12_isLetter hT hb hn (by omega) (fun ga gb => ?_) (fun g => ?_))
    · refine E_if_eq dX12_go_101 (fun c => absurd c (by decide)) (fun _ => ?_)
      refine E_aload_n dX12_go_104 rfl ?_
      refine E_dup dX12_go_105 rfl ?_
      refine L_get fX12_210 dX12_go_106 (by decide) sh_159 rfl ?_
      rw [hp]
      refine E_ic (v := 1) dX12_go_109 (by decide) ?_
      refine E_iadd dX12_go_110 ?_
      rw [nI_1]
      refine L_puti fX12_210 dX12_go_111 (by decide) sh_159 (Nat.le_of_ble_eq_true rfl) rfl ?_
      refine E_goto dX12_go_114 ?_
      rw [wdF, if_pos gb] at K
      exact E.loc (by exact ⟨rfl, rfl, trivial⟩) (ih _ (p + 1) (by rw [wr_at, pk_us]) (by omega) (hT.gf (GFr.w (by omega) (by omega))) (fun S9 a9 b9 c9 => K S9 a9 (fun j hj => by rw [b9 j hj, wr_at, pk_un (by omega)]) (fun k hk => (c9 k hk).trans (wr_ne hk))))
    · refine E_if_eq dX12_go_101 (fun _ => ?_) (fun c => absurd (by decide) c)
      rw [wdF, if_neg (fun z => g ⟨by omega, z⟩)] at K
      exact E.loc (by exact ⟨rfl, rfl, trivial⟩) (K S hp (fun _ _ => rfl) (fun _ _ => rfl))
theorem l_X12_go170 {Q : HP → Prop} (hn : n ≤ 96) (hb : byOk b n) {x1 : Int32} {s : Nat} : ∀ (f : Nat) (S : SS) (p : Nat), S 159 9 = nI p → p + f = n → s ≤ p → MT S b n → S 159 12 = nuF b s (min (p - s) 4) → S 159 10 = nI s → (∀ S', S' 159 9 = nI (wdF b 257 f p) → S' 159 12 = nuF b s (min (wdF b 257 f p - s) 4) → (∀ j, (j < 9 ∨ 9 < j) → j ≠ 12 → S' 159 j = S 159 j) → (∀ k, k ≠ 159 → S' k = S k) → E Θ (d + 1) 0 0 yX12_go cX12_go 2 none 0 0 183 (lay Θ S') 238 [(1, .int x1), (0, .ref (tb Θ + 159))] [] (Qv Q)) → E Θ (d + 1) 0 0 yX12_go cX12_go 2 none 0 0 183 (lay Θ S) 170 [(1, .int x1), (0, .ref (tb Θ + 159))] [] (Qv Q) := by
  intro f
  induction f with
  | zero =>
    intro S p hp hpn hsp hT hv hs K
    refine E_aload_n dX12_go_170 rfl ?_
    refine E_aload_n dX12_go_171 rfl ?_
    refine L_get fX12_210 dX12_go_172 (by decide) sh_159 rfl ?_
    rw [hp]
    refine E_V1i vX12_228_12 dX12_go_175 (Nat.le_of_ble_eq_true rfl) (by decide) (sh_159 _) (s_X12_isFigure hT hb hn (by omega) (fun ga gb => ?_) (fun g => ?_))
    · refine E_if_eq dX12_go_178 (fun c => absurd c (by decide)) (fun _ => ?_)
      exact absurd ga (by omega)
    · refine E_if_eq dX12_go_178 (fun _ => ?_) (fun c => absurd (by decide) c)
      exact E.loc (by exact ⟨rfl, rfl, trivial⟩) (K S hp hv (fun _ _ _ => rfl) (fun _ _ => rfl))
  | succ f ih =>
    intro S p hp hpn hsp hT hv hs K
    refine E_aload_n dX12_go_170 rfl ?_
    refine E_aload_n dX12_go_171 rfl ?_
    refine L_get fX12_210 dX12_go_172 (by decide) sh_159 rfl ?_
    rw [hp]
    refine E_V1i vX12_228_12 dX12_go_175 (Nat.le_of_ble_eq_true rfl) (by decide) (sh_159 _) (s_X12_isFigure hT hb hn (by omega) (fun ga gb => ?_) (fun g => ?_))
    · refine E_if_eq dX12_go_178 (fun c => absurd c (by decide)) (fun _ => ?_)
      refine E_aload_n dX12_go_181 rfl ?_
      refine E_aload_n dX12_go_182 rfl ?_
      refine L_get fX12_210 dX12_go_183 (by decide) sh_159 rfl ?_
      rw [hp]
      refine E_aload_n dX12_go_186 rfl ?_
      refine L_get fX12_213 dX12_go_187 (by decide) sh_159 rfl ?_
      rw [hs]
      refine E_isub dX12_go_190 ?_
      rw [pk_sub hsp]
      refine E_ic (v := 4) dX12_go_191 (by decide) ?_
      refine E_icmp_ge dX12_go_192 (fun c192 => ?_) (fun c192 => ?_)
      · refine E_aload_n dX12_go_218 rfl ?_
        refine L_get fX12_225 dX12_go_219 (by decide) sh_159 rfl ?_
        rw [hv]
        refine L_puti fX12_225 dX12_go_222 (by decide) sh_159 (Nat.le_of_ble_eq_true rfl) rfl ?_
        refine E_aload_n dX12_go_225 rfl ?_
        refine E_dup dX12_go_226 rfl ?_
        refine L_get fX12_210 dX12_go_227 (by decide) sh_159 rfl ?_
        rw [wr_at, pk_un (by decide), hp]
        refine E_ic (v := 1) dX12_go_230 (by decide) ?_
        refine E_iadd dX12_go_231 ?_
        rw [nI_1]
        refine L_puti fX12_210 dX12_go_232 (by decide) sh_159 (Nat.le_of_ble_eq_true rfl) rfl ?_
        refine E_goto dX12_go_235 ?_
        have g4 : 4 ≤ p - s := (nI_leI (a := 4) (by omega) (by omega)).mp c192
        rw [wdF, if_pos gb] at K
        exact E.loc (by exact ⟨rfl, rfl, trivial⟩) (ih _ (p + 1) (by rw [wr_at, pk_us]) (by omega) (by omega) ((hT.gf (GFr.w (by omega) (by omega))).gf (GFr.w (by omega) (by omega))) (by rw [wr_at, pk_un (by decide), wr_at, pk_us]; rw [show min (p + 1 - s) 4 = min (p - s) 4 by omega]) (by rw [wr_at, pk_un (by decide), wr_at, pk_un (by decide)]; exact hs) (fun S9 a9 e9 b9 c9 => K S9 a9 e9 (fun j hj h12 => by rw [b9 j hj h12, wr_at, pk_un (by omega), wr_at, pk_un h12]) (fun k hk => (c9 k hk).trans ((wr_ne hk).trans (wr_ne hk)))))
      · refine E_bipush (v := 10) dX12_go_195 (by decide) ?_
        refine E_aload_n dX12_go_197 rfl ?_
        refine L_get fX12_225 dX12_go_198 (by decide) sh_159 rfl ?_
        rw [hv]
        refine E_imul dX12_go_201 ?_
        refine E_aload_n dX12_go_202 rfl ?_
        refine L_get fX12_29 dX12_go_203 (by decide) sh_159 rfl ?_
        refine E_aload_n dX12_go_206 rfl ?_
        refine L_get fX12_210 dX12_go_207 (by decide) sh_159 rfl ?_
        rw [hp]
        refine L_iald (j := p) dX12_go_210 (by decide) sh_166 rfl (by omega) (by decide) ?_
        rw [hT.2 p (by omega)]
        refine E_iadd dX12_go_211 ?_
        refine E_bipush (v := 48) dX12_go_212 (by decide) ?_
        refine E_isub dX12_go_214 ?_
        refine E_goto dX12_go_215 ?_
        refine L_puti fX12_225 dX12_go_222 (by decide) sh_159 (Nat.le_of_ble_eq_true rfl) rfl ?_
        refine E_aload_n dX12_go_225 rfl ?_
        refine E_dup dX12_go_226 rfl ?_
        refine L_get fX12_210 dX12_go_227 (by decide) sh_159 rfl ?_
        rw [wr_at, pk_un (by decide), hp]
        refine E_ic (v := 1) dX12_go_230 (by decide) ?_
        refine E_iadd dX12_go_231 ?_
        rw [nI_1]
        refine L_puti fX12_210 dX12_go_232 (by decide) sh_159 (Nat.le_of_ble_eq_true rfl) rfl ?_
        refine E_goto dX12_go_235 ?_
        have l4 : p - s < 4 := Nat.lt_of_not_le (fun h => c192 (nI_le (a := 4) h (by omega)))
        rw [wdF, if_pos gb] at K
        exact E.loc (by exact ⟨rfl, rfl, trivial⟩) (ih _ (p + 1) (by rw [wr_at, pk_us]) (by omega) (by omega) ((hT.gf (GFr.w (by omega) (by omega))).gf (GFr.w (by omega) (by omega))) (by rw [wr_at, pk_un (by decide), wr_at, pk_us]; rw [show min (p + 1 - s) 4 = min (p - s) 4 + 1 by omega, nuF, show s + min (p - s) 4 = p by omega]) (by rw [wr_at, pk_un (by decide), wr_at, pk_un (by decide)]; exact hs) (fun S9 a9 e9 b9 c9 => K S9 a9 e9 (fun j hj h12 => by rw [b9 j hj h12, wr_at, pk_un (by omega), wr_at, pk_un h12]) (fun k hk => (c9 k hk).trans ((wr_ne hk).trans (wr_ne hk)))))
    · refine E_if_eq dX12_go_178 (fun _ => ?_) (fun c => absurd (by decide) c)
      rw [wdF, if_neg (fun z => g ⟨by omega, z⟩)] at K
      exact E.loc (by exact ⟨rfl, rfl, trivial⟩) (K S hp hv (fun _ _ _ => rfl) (fun _ _ => rfl))
/-- where a token's facts come from -/
theorem nx_end {e s : Nat} {t : Int32} (es : nxS b n e = s) (h : n ≤ s) : nxE b n e = s ∧ nxK b n e t = 258 := by
  rw [nxE, nxK, es, if_pos h, if_pos h]
  exact ⟨rfl, rfl⟩
theorem nx_word {e s : Nat} {t w : Int32} (es : nxS b n e = s) (h : ¬ n ≤ s) (hw : isWd w) (hs : soT (b s) = w) : nxE b n e = wdF b w (n - (s + 1)) (s + 1) ∧ nxK b n e t = (if isWd t ∧ s = e then 259 else w) := by
  rw [nxE, nxK, es, if_neg h, if_neg h, hs, if_pos hw]
  refine ⟨rfl, ?_⟩
  by_cases c : isWd t ∧ s = e
  · rw [if_pos ⟨hw, c⟩, if_pos c]
  · rw [if_neg (fun z => c z.2), if_neg c]
theorem nx_sign {e s : Nat} {t : Int32} (es : nxS b n e = s) (h : ¬ n ≤ s) (hw : ¬ isWd (soT (b s))) : nxE b n e = s + 1 ∧ nxK b n e t = soT (b s) := by
  rw [nxE, nxK, es, if_neg h, if_neg h, if_neg hw, if_neg (fun z => hw z.1)]
  exact ⟨rfl, rfl⟩
theorem wd_start {w : Int32} {s : Nat} (h : s < n) (hs : soT (b s) = w) : wdF b w (n - s) s = wdF b w (n - (s + 1)) (s + 1) := by
  rw [show n - s = n - (s + 1) + 1 by omega, wdF, if_pos hs]
theorem s_X12_go {Q : HP → Prop} (hT : MT S b n) (hb : byOk b n) (hn : n ≤ 96) {e : Nat} {t : Int32} (he : e ≤ n) (hne : S 159 9 = nI e) (hen : EnO (S 159 13) e t) (hq : ∀ S', MKr S' b (nxS b n e) (nxE b n e) (nxK b n e t) → GFr S S' → Q (lay Θ S')) : C Θ (d + 1) 0 0 yX12_go cX12_go 2 none [.ref (tb Θ + 159)] 183 (lay Θ S) (Qv Q) := by
  refine C_of rfl rfl (Nat.le_of_ble_eq_true rfl) ?_
  refine E.loc (ls' := [(0, .ref (tb Θ + 159))]) (by exact ⟨rfl, trivial⟩) (l_X12_go0 hn (n - e) S e hne (by omega) hT (fun S8 a8 b8 c8 => ?_))
  have hes : e ≤ nxS b n e := (nxS_le he).1
  have hsn : nxS b n e ≤ n := (nxS_le he).2
  rw [show skF b (n - e) e = nxS b n e from rfl] at a8
  have en8 : EnO (S8 159 13) e t := by rw [b8]; exact hen
  have T8 := hT.gf c8
  generalize es : nxS b n e = s at a8 hes hsn hq ⊢
  by_cases hend : n ≤ s
  · obtain ⟨eE, eK⟩ := nx_end (t := t) es hend
    rw [eE, eK] at hq
    refine E_aload_n dX12_go_38 rfl ?_
    refine E_aload_n dX12_go_39 rfl ?_
    refine L_get fX12_210 dX12_go_40 (by decide) sh_159 rfl ?_
    rw [a8]
    refine L_puti fX12_213 dX12_go_43 (by decide) sh_159 (Nat.le_of_ble_eq_true rfl) rfl ?_
    refine E_aload_n dX12_go_46 rfl ?_
    refine L_get fX12_213 dX12_go_47 (by decide) sh_159 rfl ?_
    rw [wr_at, pk_us]
    refine E_aload_n dX12_go_50 rfl ?_
    refine L_get fX12_216 dX12_go_51 (by decide) sh_159 rfl ?_
    rw [wr_at, pk_un (by decide)]
    refine E_icmp_ne dX12_go_54 (fun c54 => ?_) (fun c54 => ?_)
    · refine E_ic (v := 0) dX12_go_61 (by decide) ?_
      refine E_istore_n dX12_go_62 (by decide) ?_
      refine E_aload_n dX12_go_63 rfl ?_
      refine L_get fX12_213 dX12_go_64 (by decide) sh_159 rfl ?_
      rw [wr_at, pk_us]
      refine E_aload_n dX12_go_67 rfl ?_
      refine L_get fX12_206 dX12_go_68 (by decide) sh_159 rfl ?_
      rw [wr_at, pk_un (by decide), T8.1]
      refine E_icmp_ne dX12_go_71 (fun c => absurd (by rw [show s = n by omega]) c) (fun _ => ?_)
      refine E_aload_n dX12_go_74 rfl ?_
      refine E_ic (v := 0) dX12_go_75 (by decide) ?_
      refine L_puti fX12_219 dX12_go_76 (by decide) sh_159 (Nat.le_of_ble_eq_true rfl) rfl ?_
      refine E_goto dX12_go_79 ?_
      refine E_vret dX12_go_303 rfl rfl ?_
      refine hq _ ⟨?_, ?_, ?_, fun z => absurd z (by decide), fun z => absurd z (by decide), fun z => absurd rfl z, fun _ z => absurd rfl z⟩ ((c8.tr (GFr.w (by omega) (by omega))).tr (GFr.w (by omega) (by omega)))
      · rw [wr_at, pk_un (by decide), wr_at, pk_un (by decide), a8]
      · rw [wr_at, pk_un (by decide), wr_at, pk_us]
      · rw [wr_at, pk_us]; rfl
    · refine E_ic (v := 1) dX12_go_57 (by decide) ?_
      refine E_goto dX12_go_58 ?_
      refine E_istore_n dX12_go_62 (by decide) ?_
      refine E_aload_n dX12_go_63 rfl ?_
      refine L_get fX12_213 dX12_go_64 (by decide) sh_159 rfl ?_
      rw [wr_at, pk_us]
      refine E_aload_n dX12_go_67 rfl ?_
      refine L_get fX12_206 dX12_go_68 (by decide) sh_159 rfl ?_
      rw [wr_at, pk_un (by decide), T8.1]
      refine E_icmp_ne dX12_go_71 (fun c => absurd (by rw [show s = n by omega]) c) (fun _ => ?_)
      refine E_aload_n dX12_go_74 rfl ?_
      refine E_ic (v := 0) dX12_go_75 (by decide) ?_
      refine L_puti fX12_219 dX12_go_76 (by decide) sh_159 (Nat.le_of_ble_eq_true rfl) rfl ?_
      refine E_goto dX12_go_79 ?_
      refine E_vret dX12_go_303 rfl rfl ?_
      refine hq _ ⟨?_, ?_, ?_, fun z => absurd z (by decide), fun z => absurd z (by decide), fun z => absurd rfl z, fun _ z => absurd rfl z⟩ ((c8.tr (GFr.w (by omega) (by omega))).tr (GFr.w (by omega) (by omega)))
      · rw [wr_at, pk_un (by decide), wr_at, pk_un (by decide), a8]
      · rw [wr_at, pk_un (by decide), wr_at, pk_us]
      · rw [wr_at, pk_us]; rfl
  by_cases hlet : soT (b s) = 256
  · obtain ⟨eE, eK⟩ := nx_word (t := t) es hend (Or.inl rfl) hlet
    rw [eE, eK] at hq
    by_cases hg : isWd t ∧ s = e
    · rw [if_pos hg] at hq
      have hcl := (close_iff en8 hes hsn hn).mpr hg
      refine E_aload_n dX12_go_38 rfl ?_
      refine E_aload_n dX12_go_39 rfl ?_
      refine L_get fX12_210 dX12_go_40 (by decide) sh_159 rfl ?_
      rw [a8]
      refine L_puti fX12_213 dX12_go_43 (by decide) sh_159 (Nat.le_of_ble_eq_true rfl) rfl ?_
      refine E_aload_n dX12_go_46 rfl ?_
      refine L_get fX12_213 dX12_go_47 (by decide) sh_159 rfl ?_
      rw [wr_at, pk_us]
      refine E_aload_n dX12_go_50 rfl ?_
      refine L_get fX12_216 dX12_go_51 (by decide) sh_159 rfl ?_
      rw [wr_at, pk_un (by decide)]
      refine E_icmp_ne dX12_go_54 (fun c => absurd hcl c) (fun _ => ?_)
      refine E_ic (v := 1) dX12_go_57 (by decide) ?_
      refine E_goto dX12_go_58 ?_
      refine E_istore_n dX12_go_62 (by decide) ?_
      refine E_aload_n dX12_go_63 rfl ?_
      refine L_get fX12_213 dX12_go_64 (by decide) sh_159 rfl ?_
      rw [wr_at, pk_us]
      refine E_aload_n dX12_go_67 rfl ?_
      refine L_get fX12_206 dX12_go_68 (by decide) sh_159 rfl ?_
      rw [wr_at, pk_un (by decide), T8.1]
      refine E_icmp_ne dX12_go_71 (fun _ => ?_) (fun c => absurd c (fun z => hend (by have := nI_inj (by omega) (by omega) z; omega)))
      refine E_aload_n dX12_go_82 rfl ?_
      refine E_aload_n dX12_go_83 rfl ?_
      refine L_get fX12_213 dX12_go_84 (by decide) sh_159 rfl ?_
      rw [wr_at, pk_us]
      refine E_V1i vX12_222_12 dX12_go_87 (Nat.le_of_ble_eq_true rfl) (by decide) (sh_159 _) (s_X12_isLetter (T8.gf (GFr.w (j := 10) (x := nI s) (by omega) (by omega))) hb hn (by omega) (fun ga gb => ?_) (fun g => ?_))
      · refine E_if_eq dX12_go_90 (fun c => absurd c (by decide)) (fun _ => ?_)
        refine E.loc (ls' := [(1, .int 1), (0, .ref (tb Θ + 159))]) (by exact ⟨rfl, rfl, trivial⟩) (l_X12_go93 hn hb (n - s) _ s (by rw [wr_at, pk_un (by decide)]; exact a8) (by omega) (T8.gf (GFr.w (j := 10) (x := nI s) (by omega) (by omega))) (fun S7 a7 b7 c7 => ?_))
        rw [wd_start (by omega) hlet] at a7
        refine E_aload_n dX12_go_117 rfl ?_
        refine E_iload_n dX12_go_118 rfl ?_
        refine E_if_eq dX12_go_119 (fun c => absurd c (by decide)) (fun _ => ?_)
        refine E_ic (v := 4) dX12_go_122 (by decide) ?_
        refine E_goto dX12_go_123 ?_
        refine L_puti fX12_219 dX12_go_127 (by decide) sh_159 (Nat.le_of_ble_eq_true rfl) rfl ?_
        refine E_aload_n dX12_go_130 rfl ?_
        refine E_aload_n dX12_go_131 rfl ?_
        refine L_get fX12_29 dX12_go_132 (by decide) sh_159 rfl ?_
        refine E_aload_n dX12_go_135 rfl ?_
        refine L_get fX12_213 dX12_go_136 (by decide) sh_159 rfl ?_
        rw [wr_at, pk_un (by decide), b7 10 (by omega), wr_at, pk_us]
        refine L_iald (j := s) dX12_go_139 (by decide) sh_166 rfl (by omega) (by decide) ?_
        rw [wr_ne (by decide), c7 166 (by decide), wr_ne (by decide), T8.2 s (by omega)]
        refine L_puti fX12_225 dX12_go_140 (by decide) sh_159 (Nat.le_of_ble_eq_true rfl) rfl ?_
        refine E_aload_n dX12_go_143 rfl ?_
        refine E_aload_n dX12_go_144 rfl ?_
        refine L_get fX12_210 dX12_go_145 (by decide) sh_159 rfl ?_
        refine L_puti fX12_216 dX12_go_148 (by decide) sh_159 (Nat.le_of_ble_eq_true rfl) rfl ?_
        refine E_goto dX12_go_151 ?_
        refine E_vret dX12_go_303 rfl rfl ?_
        refine hq _ ⟨?_, ?_, ?_, fun z => ?_, fun z => absurd z (by decide), fun _ z z2 => ?_, fun z _ => ?_⟩ ?_
        · rw [wr_at, pk_un (by decide), wr_at, pk_un (by decide), wr_at, pk_un (by decide), a7]
        · rw [wr_at, pk_un (by decide), wr_at, pk_un (by decide), wr_at, pk_un (by decide), b7 10 (by omega), wr_at, pk_us]
        · rw [wr_at, pk_un (by decide), wr_at, pk_un (by decide), wr_at, pk_us]; rfl
        · exact absurd z (by decide)
        · exact absurd rfl z
        · exact absurd rfl z
        · exact (((c8.tr (GFr.w (j := 10) (by omega) (by omega))).tr ⟨fun j hj => b7 j (by omega), c7⟩).tr (GFr.w (by omega) (by omega))).tr ((GFr.w (by omega) (by omega)).tr (GFr.w (by omega) (by omega)))
      · refine E_if_eq dX12_go_90 (fun _ => ?_) (fun c => absurd (by decide) c)
        exact absurd ⟨by omega, hlet⟩ g
    · rw [if_neg hg] at hq
      have hcl : ¬ nI s = S8 159 13 := fun z => hg ((close_iff en8 hes hsn hn).mp z)
      refine E_aload_n dX12_go_38 rfl ?_
      refine E_aload_n dX12_go_39 rfl ?_
      refine L_get fX12_210 dX12_go_40 (by decide) sh_159 rfl ?_
      rw [a8]
      refine L_puti fX12_213 dX12_go_43 (by decide) sh_159 (Nat.le_of_ble_eq_true rfl) rfl ?_
      refine E_aload_n dX12_go_46 rfl ?_
      refine L_get fX12_213 dX12_go_47 (by decide) sh_159 rfl ?_
      rw [wr_at, pk_us]
      refine E_aload_n dX12_go_50 rfl ?_
      refine L_get fX12_216 dX12_go_51 (by decide) sh_159 rfl ?_
      rw [wr_at, pk_un (by decide)]
      refine E_icmp_ne dX12_go_54 (fun _ => ?_) (fun c => absurd c hcl)
      refine E_ic (v := 0) dX12_go_61 (by decide) ?_
      refine E_istore_n dX12_go_62 (by decide) ?_
      refine E_aload_n dX12_go_63 rfl ?_
      refine L_get fX12_213 dX12_go_64 (by decide) sh_159 rfl ?_
      rw [wr_at, pk_us]
      refine E_aload_n dX12_go_67 rfl ?_
      refine L_get fX12_206 dX12_go_68 (by decide) sh_159 rfl ?_
      rw [wr_at, pk_un (by decide), T8.1]
      refine E_icmp_ne dX12_go_71 (fun _ => ?_) (fun c => absurd c (fun z => hend (by have := nI_inj (by omega) (by omega) z; omega)))
      refine E_aload_n dX12_go_82 rfl ?_
      refine E_aload_n dX12_go_83 rfl ?_
      refine L_get fX12_213 dX12_go_84 (by decide) sh_159 rfl ?_
      rw [wr_at, pk_us]
      refine E_V1i vX12_222_12 dX12_go_87 (Nat.le_of_ble_eq_true rfl) (by decide) (sh_159 _) (s_X12_isLetter (T8.gf (GFr.w (j := 10) (x := nI s) (by omega) (by omega))) hb hn (by omega) (fun ga gb => ?_) (fun g => ?_))
      · refine E_if_eq dX12_go_90 (fun c => absurd c (by decide)) (fun _ => ?_)
        refine E.loc (ls' := [(1, .int 0), (0, .ref (tb Θ + 159))]) (by exact ⟨rfl, rfl, trivial⟩) (l_X12_go93 hn hb (n - s) _ s (by rw [wr_at, pk_un (by decide)]; exact a8) (by omega) (T8.gf (GFr.w (j := 10) (x := nI s) (by omega) (by omega))) (fun S7 a7 b7 c7 => ?_))
        rw [wd_start (by omega) hlet] at a7
        refine E_aload_n dX12_go_117 rfl ?_
        refine E_iload_n dX12_go_118 rfl ?_
        refine E_if_eq dX12_go_119 (fun _ => ?_) (fun c => absurd rfl c)
        refine E_ic (v := 1) dX12_go_126 (by decide) ?_
        refine L_puti fX12_219 dX12_go_127 (by decide) sh_159 (Nat.le_of_ble_eq_true rfl) rfl ?_
        refine E_aload_n dX12_go_130 rfl ?_
        refine E_aload_n dX12_go_131 rfl ?_
        refine L_get fX12_29 dX12_go_132 (by decide) sh_159 rfl ?_
        refine E_aload_n dX12_go_135 rfl ?_
        refine L_get fX12_213 dX12_go_136 (by decide) sh_159 rfl ?_
        rw [wr_at, pk_un (by decide), b7 10 (by omega), wr_at, pk_us]
        refine L_iald (j := s) dX12_go_139 (by decide) sh_166 rfl (by omega) (by decide) ?_
        rw [wr_ne (by decide), c7 166 (by decide), wr_ne (by decide), T8.2 s (by omega)]
        refine L_puti fX12_225 dX12_go_140 (by decide) sh_159 (Nat.le_of_ble_eq_true rfl) rfl ?_
        refine E_aload_n dX12_go_143 rfl ?_
        refine E_aload_n dX12_go_144 rfl ?_
        refine L_get fX12_210 dX12_go_145 (by decide) sh_159 rfl ?_
        refine L_puti fX12_216 dX12_go_148 (by decide) sh_159 (Nat.le_of_ble_eq_true rfl) rfl ?_
        refine E_goto dX12_go_151 ?_
        refine E_vret dX12_go_303 rfl rfl ?_
        refine hq _ ⟨?_, ?_, ?_, fun z => ?_, fun z => absurd z (by decide), fun _ z z2 => ?_, fun z _ => ?_⟩ ?_
        · rw [wr_at, pk_un (by decide), wr_at, pk_un (by decide), wr_at, pk_un (by decide), a7]
        · rw [wr_at, pk_un (by decide), wr_at, pk_un (by decide), wr_at, pk_un (by decide), b7 10 (by omega), wr_at, pk_us]
        · rw [wr_at, pk_un (by decide), wr_at, pk_un (by decide), wr_at, pk_us]; rfl
        · rw [wr_at, pk_un (by decide), wr_at, pk_us]
        · exact absurd (Or.inl rfl) z2
        · rw [wr_at, pk_us, wr_at, pk_un (by decide), wr_at, pk_un (by decide), a7]; exact ⟨fun _ => rfl, fun w => absurd (Or.inl rfl) w⟩
        · exact (((c8.tr (GFr.w (j := 10) (by omega) (by omega))).tr ⟨fun j hj => b7 j (by omega), c7⟩).tr (GFr.w (by omega) (by omega))).tr ((GFr.w (by omega) (by omega)).tr (GFr.w (by omega) (by omega)))
      · refine E_if_eq dX12_go_90 (fun _ => ?_) (fun c => absurd (by decide) c)
        exact absurd ⟨by omega, hlet⟩ g
  by_cases hfig : soT (b s) = 257
  · obtain ⟨eE, eK⟩ := nx_word (t := t) es hend (Or.inr rfl) hfig
    rw [eE, eK] at hq
    by_cases hg : isWd t ∧ s = e
    · rw [if_pos hg] at hq
      have hcl := (close_iff en8 hes hsn hn).mpr hg
      refine E_aload_n dX12_go_38 rfl ?_
      refine E_aload_n dX12_go_39 rfl ?_
      refine L_get fX12_210 dX12_go_40 (by decide) sh_159 rfl ?_
      rw [a8]
      refine L_puti fX12_213 dX12_go_43 (by decide) sh_159 (Nat.le_of_ble_eq_true rfl) rfl ?_
      refine E_aload_n dX12_go_46 rfl ?_
      refine L_get fX12_213 dX12_go_47 (by decide) sh_159 rfl ?_
      rw [wr_at, pk_us]
      refine E_aload_n dX12_go_50 rfl ?_
      refine L_get fX12_216 dX12_go_51 (by decide) sh_159 rfl ?_
      rw [wr_at, pk_un (by decide)]
      refine E_icmp_ne dX12_go_54 (fun c => absurd hcl c) (fun _ => ?_)
      refine E_ic (v := 1) dX12_go_57 (by decide) ?_
      refine E_goto dX12_go_58 ?_
      refine E_istore_n dX12_go_62 (by decide) ?_
      refine E_aload_n dX12_go_63 rfl ?_
      refine L_get fX12_213 dX12_go_64 (by decide) sh_159 rfl ?_
      rw [wr_at, pk_us]
      refine E_aload_n dX12_go_67 rfl ?_
      refine L_get fX12_206 dX12_go_68 (by decide) sh_159 rfl ?_
      rw [wr_at, pk_un (by decide), T8.1]
      refine E_icmp_ne dX12_go_71 (fun _ => ?_) (fun c => absurd c (fun z => hend (by have := nI_inj (by omega) (by omega) z; omega)))
      refine E_aload_n dX12_go_82 rfl ?_
      refine E_aload_n dX12_go_83 rfl ?_
      refine L_get fX12_213 dX12_go_84 (by decide) sh_159 rfl ?_
      rw [wr_at, pk_us]
      refine E_V1i vX12_222_12 dX12_go_87 (Nat.le_of_ble_eq_true rfl) (by decide) (sh_159 _) (s_X12_isLetter (T8.gf (GFr.w (j := 10) (x := nI s) (by omega) (by omega))) hb hn (by omega) (fun ga gb => ?_) (fun g => ?_))
      · refine E_if_eq dX12_go_90 (fun c => absurd c (by decide)) (fun _ => ?_)
        exact absurd (gb.symm.trans hfig) (by decide)
      · refine E_if_eq dX12_go_90 (fun _ => ?_) (fun c => absurd (by decide) c)
        refine E_aload_n dX12_go_154 rfl ?_
        refine E_aload_n dX12_go_155 rfl ?_
        refine L_get fX12_213 dX12_go_156 (by decide) sh_159 rfl ?_
        rw [wr_at, pk_us]
        refine E_V1i vX12_228_12 dX12_go_159 (Nat.le_of_ble_eq_true rfl) (by decide) (sh_159 _) (s_X12_isFigure (T8.gf (GFr.w (j := 10) (x := nI s) (by omega) (by omega))) hb hn (by omega) (fun gc gd => ?_) (fun g2 => ?_))
        · refine E_if_eq dX12_go_162 (fun c => absurd c (by decide)) (fun _ => ?_)
          refine E_aload_n dX12_go_165 rfl ?_
          refine E_ic (v := 0) dX12_go_166 (by decide) ?_
          refine L_puti fX12_225 dX12_go_167 (by decide) sh_159 (Nat.le_of_ble_eq_true rfl) rfl ?_
          have hW := wd_le (b := b) (t := 257) (n - (s + 1)) (s + 1)
          refine E.loc (ls' := [(1, .int 1), (0, .ref (tb Θ + 159))]) (by exact ⟨rfl, rfl, trivial⟩) (l_X12_go170 hn hb (n - s) _ s (by rw [wr_at, pk_un (by decide), wr_at, pk_un (by decide)]; exact a8) (by omega) (Nat.le_refl _) ((T8.gf (GFr.w (j := 10) (x := nI s) (by omega) (by omega))).gf (GFr.w (by omega) (by omega))) (by rw [wr_at, pk_us, Nat.sub_self]; rfl) (by rw [wr_at, pk_un (by decide), wr_at, pk_us]) (fun S7 a7 v7 b7 c7 => ?_))
          rw [wd_start (by omega) hfig] at a7 v7
          refine E_aload_n dX12_go_238 rfl ?_
          refine E_iload_n dX12_go_239 rfl ?_
          refine E_if_ne dX12_go_240 (fun _ => ?_) (fun c => absurd c (by decide))
          refine E_ic (v := 4) dX12_go_256 (by decide) ?_
          refine E_goto dX12_go_257 ?_
          refine L_puti fX12_219 dX12_go_261 (by decide) sh_159 (Nat.le_of_ble_eq_true rfl) rfl ?_
          refine E_aload_n dX12_go_264 rfl ?_
          refine E_aload_n dX12_go_265 rfl ?_
          refine L_get fX12_210 dX12_go_266 (by decide) sh_159 rfl ?_
          refine L_puti fX12_216 dX12_go_269 (by decide) sh_159 (Nat.le_of_ble_eq_true rfl) rfl ?_
          refine E_goto dX12_go_272 ?_
          refine E_vret dX12_go_303 rfl rfl ?_
          refine hq _ ⟨?_, ?_, ?_, fun z => absurd z (by decide), fun z z4 => absurd z (by decide), fun _ z z2 => absurd rfl z, fun z _ => absurd rfl z⟩ ?_
          · rw [wr_at, pk_un (by decide), wr_at, pk_un (by decide), a7]
          · rw [wr_at, pk_un (by decide), wr_at, pk_un (by decide), b7 10 (by omega) (by omega), wr_at, pk_un (by decide), wr_at, pk_us]
          · rw [wr_at, pk_un (by decide), wr_at, pk_us]; rfl
          · exact ((c8.tr ((GFr.w (j := 10) (by omega) (by omega)).tr (GFr.w (j := 12) (by omega) (by omega)))).tr ⟨fun j hj => b7 j (by omega) (by omega), c7⟩).tr ((GFr.w (by omega) (by omega)).tr (GFr.w (by omega) (by omega)))
        · refine E_if_eq dX12_go_162 (fun _ => ?_) (fun c => absurd (by decide) c)
          exact absurd ⟨by omega, hfig⟩ g2
    · rw [if_neg hg] at hq
      have hcl : ¬ nI s = S8 159 13 := fun z => hg ((close_iff en8 hes hsn hn).mp z)
      refine E_aload_n dX12_go_38 rfl ?_
      refine E_aload_n dX12_go_39 rfl ?_
      refine L_get fX12_210 dX12_go_40 (by decide) sh_159 rfl ?_
      rw [a8]
      refine L_puti fX12_213 dX12_go_43 (by decide) sh_159 (Nat.le_of_ble_eq_true rfl) rfl ?_
      refine E_aload_n dX12_go_46 rfl ?_
      refine L_get fX12_213 dX12_go_47 (by decide) sh_159 rfl ?_
      rw [wr_at, pk_us]
      refine E_aload_n dX12_go_50 rfl ?_
      refine L_get fX12_216 dX12_go_51 (by decide) sh_159 rfl ?_
      rw [wr_at, pk_un (by decide)]
      refine E_icmp_ne dX12_go_54 (fun _ => ?_) (fun c => absurd c hcl)
      refine E_ic (v := 0) dX12_go_61 (by decide) ?_
      refine E_istore_n dX12_go_62 (by decide) ?_
      refine E_aload_n dX12_go_63 rfl ?_
      refine L_get fX12_213 dX12_go_64 (by decide) sh_159 rfl ?_
      rw [wr_at, pk_us]
      refine E_aload_n dX12_go_67 rfl ?_
      refine L_get fX12_206 dX12_go_68 (by decide) sh_159 rfl ?_
      rw [wr_at, pk_un (by decide), T8.1]
      refine E_icmp_ne dX12_go_71 (fun _ => ?_) (fun c => absurd c (fun z => hend (by have := nI_inj (by omega) (by omega) z; omega)))
      refine E_aload_n dX12_go_82 rfl ?_
      refine E_aload_n dX12_go_83 rfl ?_
      refine L_get fX12_213 dX12_go_84 (by decide) sh_159 rfl ?_
      rw [wr_at, pk_us]
      refine E_V1i vX12_222_12 dX12_go_87 (Nat.le_of_ble_eq_true rfl) (by decide) (sh_159 _) (s_X12_isLetter (T8.gf (GFr.w (j := 10) (x := nI s) (by omega) (by omega))) hb hn (by omega) (fun ga gb => ?_) (fun g => ?_))
      · refine E_if_eq dX12_go_90 (fun c => absurd c (by decide)) (fun _ => ?_)
        exact absurd (gb.symm.trans hfig) (by decide)
      · refine E_if_eq dX12_go_90 (fun _ => ?_) (fun c => absurd (by decide) c)
        refine E_aload_n dX12_go_154 rfl ?_
        refine E_aload_n dX12_go_155 rfl ?_
        refine L_get fX12_213 dX12_go_156 (by decide) sh_159 rfl ?_
        rw [wr_at, pk_us]
        refine E_V1i vX12_228_12 dX12_go_159 (Nat.le_of_ble_eq_true rfl) (by decide) (sh_159 _) (s_X12_isFigure (T8.gf (GFr.w (j := 10) (x := nI s) (by omega) (by omega))) hb hn (by omega) (fun gc gd => ?_) (fun g2 => ?_))
        · refine E_if_eq dX12_go_162 (fun c => absurd c (by decide)) (fun _ => ?_)
          refine E_aload_n dX12_go_165 rfl ?_
          refine E_ic (v := 0) dX12_go_166 (by decide) ?_
          refine L_puti fX12_225 dX12_go_167 (by decide) sh_159 (Nat.le_of_ble_eq_true rfl) rfl ?_
          have hW := wd_le (b := b) (t := 257) (n - (s + 1)) (s + 1)
          refine E.loc (ls' := [(1, .int 0), (0, .ref (tb Θ + 159))]) (by exact ⟨rfl, rfl, trivial⟩) (l_X12_go170 hn hb (n - s) _ s (by rw [wr_at, pk_un (by decide), wr_at, pk_un (by decide)]; exact a8) (by omega) (Nat.le_refl _) ((T8.gf (GFr.w (j := 10) (x := nI s) (by omega) (by omega))).gf (GFr.w (by omega) (by omega))) (by rw [wr_at, pk_us, Nat.sub_self]; rfl) (by rw [wr_at, pk_un (by decide), wr_at, pk_us]) (fun S7 a7 v7 b7 c7 => ?_))
          rw [wd_start (by omega) hfig] at a7 v7
          refine E_aload_n dX12_go_238 rfl ?_
          refine E_iload_n dX12_go_239 rfl ?_
          refine E_if_ne dX12_go_240 (fun c => absurd rfl c) (fun _ => ?_)
          refine E_aload_n dX12_go_243 rfl ?_
          refine L_get fX12_210 dX12_go_244 (by decide) sh_159 rfl ?_
          refine E_aload_n dX12_go_247 rfl ?_
          refine L_get fX12_213 dX12_go_248 (by decide) sh_159 rfl ?_
          refine E_isub dX12_go_251 ?_
          refine E_ic (v := 4) dX12_go_252 (by decide) ?_
          refine E_icmp_le dX12_go_253 (fun c253 => ?_) (fun c253 => ?_)
          · refine E_ic (v := 2) dX12_go_260 (by decide) ?_
            refine L_puti fX12_219 dX12_go_261 (by decide) sh_159 (Nat.le_of_ble_eq_true rfl) rfl ?_
            refine E_aload_n dX12_go_264 rfl ?_
            refine E_aload_n dX12_go_265 rfl ?_
            refine L_get fX12_210 dX12_go_266 (by decide) sh_159 rfl ?_
            refine L_puti fX12_216 dX12_go_269 (by decide) sh_159 (Nat.le_of_ble_eq_true rfl) rfl ?_
            refine E_goto dX12_go_272 ?_
            refine E_vret dX12_go_303 rfl rfl ?_
            have l4 : wdF b 257 (n - (s + 1)) (s + 1) - s ≤ 4 := by
              rw [a7, b7 10 (by omega) (by omega), wr_at, pk_un (by decide), wr_at, pk_us, pk_sub (by omega)] at c253
              exact (nI_leI (b := 4) (by omega) (by omega)).mp c253
            refine hq _ ⟨?_, ?_, ?_, fun z => absurd z (by decide), fun z z4 => ?_, fun _ z z2 => absurd (Or.inr rfl) z2, fun z _ => ?_⟩ ?_
            · rw [wr_at, pk_un (by decide), wr_at, pk_un (by decide), a7]
            · rw [wr_at, pk_un (by decide), wr_at, pk_un (by decide), b7 10 (by omega) (by omega), wr_at, pk_un (by decide), wr_at, pk_us]
            · rw [wr_at, pk_un (by decide), wr_at, pk_us]; rw [rtk, if_neg (by decide), if_neg (by decide), if_pos rfl, if_pos l4]
            · rw [wr_at, pk_un (by decide), wr_at, pk_un (by decide), v7, Nat.min_eq_left l4]
            · rw [wr_at, pk_us, wr_at, pk_un (by decide), a7]; exact ⟨fun _ => rfl, fun w => absurd (Or.inr rfl) w⟩
            · exact ((c8.tr ((GFr.w (j := 10) (by omega) (by omega)).tr (GFr.w (j := 12) (by omega) (by omega)))).tr ⟨fun j hj => b7 j (by omega) (by omega), c7⟩).tr ((GFr.w (by omega) (by omega)).tr (GFr.w (by omega) (by omega)))
          · refine E_ic (v := 4) dX12_go_256 (by decide) ?_
            refine E_goto dX12_go_257 ?_
            refine L_puti fX12_219 dX12_go_261 (by decide) sh_159 (Nat.le_of_ble_eq_true rfl) rfl ?_
            refine E_aload_n dX12_go_264 rfl ?_
            refine E_aload_n dX12_go_265 rfl ?_
            refine L_get fX12_210 dX12_go_266 (by decide) sh_159 rfl ?_
            refine L_puti fX12_216 dX12_go_269 (by decide) sh_159 (Nat.le_of_ble_eq_true rfl) rfl ?_
            refine E_goto dX12_go_272 ?_
            refine E_vret dX12_go_303 rfl rfl ?_
            have g4 : ¬ wdF b 257 (n - (s + 1)) (s + 1) - s ≤ 4 := fun z => c253 (by rw [a7, b7 10 (by omega) (by omega), wr_at, pk_un (by decide), wr_at, pk_us, pk_sub (by omega)]; exact nI_le (b := 4) z (by omega))
            refine hq _ ⟨?_, ?_, ?_, fun z => absurd z (by decide), fun z z4 => absurd z4 g4, fun _ z z2 => absurd (Or.inr rfl) z2, fun z _ => ?_⟩ ?_
            · rw [wr_at, pk_un (by decide), wr_at, pk_un (by decide), a7]
            · rw [wr_at, pk_un (by decide), wr_at, pk_un (by decide), b7 10 (by omega) (by omega), wr_at, pk_un (by decide), wr_at, pk_us]
            · rw [wr_at, pk_un (by decide), wr_at, pk_us]; rw [rtk, if_neg (by decide), if_neg (by decide), if_pos rfl, if_neg g4]
            · rw [wr_at, pk_us, wr_at, pk_un (by decide), a7]; exact ⟨fun _ => rfl, fun w => absurd (Or.inr rfl) w⟩
            · exact ((c8.tr ((GFr.w (j := 10) (by omega) (by omega)).tr (GFr.w (j := 12) (by omega) (by omega)))).tr ⟨fun j hj => b7 j (by omega) (by omega), c7⟩).tr ((GFr.w (by omega) (by omega)).tr (GFr.w (by omega) (by omega)))
        · refine E_if_eq dX12_go_162 (fun _ => ?_) (fun c => absurd (by decide) c)
          exact absurd ⟨by omega, hfig⟩ g2
  have hsg : ¬ isWd (soT (b s)) := fun z => z.elim hlet hfig
  obtain ⟨eE, eK⟩ := nx_sign (t := t) es hend hsg
  rw [eE, eK] at hq
  obtain ⟨q, hq256, eq⟩ := hb s (by omega)
  obtain ⟨n8, n9⟩ := soT_no hq256
  rw [← eq] at n8 n9
  by_cases hg : isWd t ∧ s = e
  · have hcl := (close_iff en8 hes hsn hn).mpr hg
    refine E_aload_n dX12_go_38 rfl ?_
    refine E_aload_n dX12_go_39 rfl ?_
    refine L_get fX12_210 dX12_go_40 (by decide) sh_159 rfl ?_
    rw [a8]
    refine L_puti fX12_213 dX12_go_43 (by decide) sh_159 (Nat.le_of_ble_eq_true rfl) rfl ?_
    refine E_aload_n dX12_go_46 rfl ?_
    refine L_get fX12_213 dX12_go_47 (by decide) sh_159 rfl ?_
    rw [wr_at, pk_us]
    refine E_aload_n dX12_go_50 rfl ?_
    refine L_get fX12_216 dX12_go_51 (by decide) sh_159 rfl ?_
    rw [wr_at, pk_un (by decide)]
    refine E_icmp_ne dX12_go_54 (fun c => absurd hcl c) (fun _ => ?_)
    refine E_ic (v := 1) dX12_go_57 (by decide) ?_
    refine E_goto dX12_go_58 ?_
    refine E_istore_n dX12_go_62 (by decide) ?_
    refine E_aload_n dX12_go_63 rfl ?_
    refine L_get fX12_213 dX12_go_64 (by decide) sh_159 rfl ?_
    rw [wr_at, pk_us]
    refine E_aload_n dX12_go_67 rfl ?_
    refine L_get fX12_206 dX12_go_68 (by decide) sh_159 rfl ?_
    rw [wr_at, pk_un (by decide), T8.1]
    refine E_icmp_ne dX12_go_71 (fun _ => ?_) (fun c => absurd c (fun z => hend (by have := nI_inj (by omega) (by omega) z; omega)))
    refine E_aload_n dX12_go_82 rfl ?_
    refine E_aload_n dX12_go_83 rfl ?_
    refine L_get fX12_213 dX12_go_84 (by decide) sh_159 rfl ?_
    rw [wr_at, pk_us]
    refine E_V1i vX12_222_12 dX12_go_87 (Nat.le_of_ble_eq_true rfl) (by decide) (sh_159 _) (s_X12_isLetter (T8.gf (GFr.w (j := 10) (x := nI s) (by omega) (by omega))) hb hn (by omega) (fun ga gb => ?_) (fun g => ?_))
    · refine E_if_eq dX12_go_90 (fun c => absurd c (by decide)) (fun _ => ?_)
      exact absurd (Or.inl gb) hsg
    · refine E_if_eq dX12_go_90 (fun _ => ?_) (fun c => absurd (by decide) c)
      refine E_aload_n dX12_go_154 rfl ?_
      refine E_aload_n dX12_go_155 rfl ?_
      refine L_get fX12_213 dX12_go_156 (by decide) sh_159 rfl ?_
      rw [wr_at, pk_us]
      refine E_V1i vX12_228_12 dX12_go_159 (Nat.le_of_ble_eq_true rfl) (by decide) (sh_159 _) (s_X12_isFigure (T8.gf (GFr.w (j := 10) (x := nI s) (by omega) (by omega))) hb hn (by omega) (fun gc gd => ?_) (fun g2 => ?_))
      · refine E_if_eq dX12_go_162 (fun c => absurd c (by decide)) (fun _ => ?_)
        exact absurd (Or.inr gd) hsg
      · refine E_if_eq dX12_go_162 (fun _ => ?_) (fun c => absurd (by decide) c)
        refine E_aload_n dX12_go_275 rfl ?_
        refine E_ic (v := 3) dX12_go_276 (by decide) ?_
        refine L_puti fX12_219 dX12_go_277 (by decide) sh_159 (Nat.le_of_ble_eq_true rfl) rfl ?_
        refine E_aload_n dX12_go_280 rfl ?_
        refine E_aload_n dX12_go_281 rfl ?_
        refine L_get fX12_29 dX12_go_282 (by decide) sh_159 rfl ?_
        refine E_aload_n dX12_go_285 rfl ?_
        refine L_get fX12_213 dX12_go_286 (by decide) sh_159 rfl ?_
        rw [wr_at, pk_un (by decide), wr_at, pk_us]
        refine L_iald (j := s) dX12_go_289 (by decide) sh_166 rfl (by omega) (by decide) ?_
        rw [wr_ne (by decide), wr_ne (by decide), T8.2 s (by omega)]
        refine L_puti fX12_225 dX12_go_290 (by decide) sh_159 (Nat.le_of_ble_eq_true rfl) rfl ?_
        refine E_aload_n dX12_go_293 rfl ?_
        refine E_dup dX12_go_294 rfl ?_
        refine L_get fX12_210 dX12_go_295 (by decide) sh_159 rfl ?_
        rw [wr_at, pk_un (by decide), wr_at, pk_un (by decide), wr_at, pk_un (by decide), a8]
        refine E_ic (v := 1) dX12_go_298 (by decide) ?_
        refine E_iadd dX12_go_299 ?_
        rw [nI_1]
        refine L_puti fX12_210 dX12_go_300 (by decide) sh_159 (Nat.le_of_ble_eq_true rfl) rfl ?_
        refine E_vret dX12_go_303 rfl rfl ?_
        refine hq _ ⟨?_, ?_, ?_, fun z => absurd (Or.inl z) hsg, fun z => absurd (Or.inr z) hsg, fun _ _ _ => ?_, fun z _ => ⟨fun w => absurd w hsg, fun _ => ?_⟩⟩ ?_
        · rw [wr_at, pk_us]
        · rw [wr_at, pk_un (by decide), wr_at, pk_un (by decide), wr_at, pk_un (by decide), wr_at, pk_us]
        · rw [wr_at, pk_un (by decide), wr_at, pk_un (by decide), wr_at, pk_us, rtk, if_neg n8, if_neg (fun z => hsg (Or.inl z)), if_neg (fun z => hsg (Or.inr z)), if_neg n9]
        · rw [wr_at, pk_un (by decide), wr_at, pk_us]
        · rw [wr_at, pk_un (by decide), wr_at, pk_un (by decide), wr_at, pk_un (by decide), wr_at, pk_un (by decide)]
          by_cases w : isWd t
          · rw [en8.1 w]; exact nI_lt (by omega) (by omega)
          · exact Int32.lt_of_lt_of_le (en8.2 w) (nI_le (by omega) (by omega))
        · exact (c8.tr ((GFr.w (j := 10) (by omega) (by omega)).tr (GFr.w (j := 11) (by omega) (by omega)))).tr ((GFr.w (j := 12) (by omega) (by omega)).tr (GFr.w (j := 9) (by omega) (by omega)))
  · have hcl : ¬ nI s = S8 159 13 := fun z => hg ((close_iff en8 hes hsn hn).mp z)
    refine E_aload_n dX12_go_38 rfl ?_
    refine E_aload_n dX12_go_39 rfl ?_
    refine L_get fX12_210 dX12_go_40 (by decide) sh_159 rfl ?_
    rw [a8]
    refine L_puti fX12_213 dX12_go_43 (by decide) sh_159 (Nat.le_of_ble_eq_true rfl) rfl ?_
    refine E_aload_n dX12_go_46 rfl ?_
    refine L_get fX12_213 dX12_go_47 (by decide) sh_159 rfl ?_
    rw [wr_at, pk_us]
    refine E_aload_n dX12_go_50 rfl ?_
    refine L_get fX12_216 dX12_go_51 (by decide) sh_159 rfl ?_
    rw [wr_at, pk_un (by decide)]
    refine E_icmp_ne dX12_go_54 (fun _ => ?_) (fun c => absurd c hcl)
    refine E_ic (v := 0) dX12_go_61 (by decide) ?_
    refine E_istore_n dX12_go_62 (by decide) ?_
    refine E_aload_n dX12_go_63 rfl ?_
    refine L_get fX12_213 dX12_go_64 (by decide) sh_159 rfl ?_
    rw [wr_at, pk_us]
    refine E_aload_n dX12_go_67 rfl ?_
    refine L_get fX12_206 dX12_go_68 (by decide) sh_159 rfl ?_
    rw [wr_at, pk_un (by decide), T8.1]
    refine E_icmp_ne dX12_go_71 (fun _ => ?_) (fun c => absurd c (fun z => hend (by have := nI_inj (by omega) (by omega) z; omega)))
    refine E_aload_n dX12_go_82 rfl ?_
    refine E_aload_n dX12_go_83 rfl ?_
    refine L_get fX12_213 dX12_go_84 (by decide) sh_159 rfl ?_
    rw [wr_at, pk_us]
    refine E_V1i vX12_222_12 dX12_go_87 (Nat.le_of_ble_eq_true rfl) (by decide) (sh_159 _) (s_X12_isLetter (T8.gf (GFr.w (j := 10) (x := nI s) (by omega) (by omega))) hb hn (by omega) (fun ga gb => ?_) (fun g => ?_))
    · refine E_if_eq dX12_go_90 (fun c => absurd c (by decide)) (fun _ => ?_)
      exact absurd (Or.inl gb) hsg
    · refine E_if_eq dX12_go_90 (fun _ => ?_) (fun c => absurd (by decide) c)
      refine E_aload_n dX12_go_154 rfl ?_
      refine E_aload_n dX12_go_155 rfl ?_
      refine L_get fX12_213 dX12_go_156 (by decide) sh_159 rfl ?_
      rw [wr_at, pk_us]
      refine E_V1i vX12_228_12 dX12_go_159 (Nat.le_of_ble_eq_true rfl) (by decide) (sh_159 _) (s_X12_isFigure (T8.gf (GFr.w (j := 10) (x := nI s) (by omega) (by omega))) hb hn (by omega) (fun gc gd => ?_) (fun g2 => ?_))
      · refine E_if_eq dX12_go_162 (fun c => absurd c (by decide)) (fun _ => ?_)
        exact absurd (Or.inr gd) hsg
      · refine E_if_eq dX12_go_162 (fun _ => ?_) (fun c => absurd (by decide) c)
        refine E_aload_n dX12_go_275 rfl ?_
        refine E_ic (v := 3) dX12_go_276 (by decide) ?_
        refine L_puti fX12_219 dX12_go_277 (by decide) sh_159 (Nat.le_of_ble_eq_true rfl) rfl ?_
        refine E_aload_n dX12_go_280 rfl ?_
        refine E_aload_n dX12_go_281 rfl ?_
        refine L_get fX12_29 dX12_go_282 (by decide) sh_159 rfl ?_
        refine E_aload_n dX12_go_285 rfl ?_
        refine L_get fX12_213 dX12_go_286 (by decide) sh_159 rfl ?_
        rw [wr_at, pk_un (by decide), wr_at, pk_us]
        refine L_iald (j := s) dX12_go_289 (by decide) sh_166 rfl (by omega) (by decide) ?_
        rw [wr_ne (by decide), wr_ne (by decide), T8.2 s (by omega)]
        refine L_puti fX12_225 dX12_go_290 (by decide) sh_159 (Nat.le_of_ble_eq_true rfl) rfl ?_
        refine E_aload_n dX12_go_293 rfl ?_
        refine E_dup dX12_go_294 rfl ?_
        refine L_get fX12_210 dX12_go_295 (by decide) sh_159 rfl ?_
        rw [wr_at, pk_un (by decide), wr_at, pk_un (by decide), wr_at, pk_un (by decide), a8]
        refine E_ic (v := 1) dX12_go_298 (by decide) ?_
        refine E_iadd dX12_go_299 ?_
        rw [nI_1]
        refine L_puti fX12_210 dX12_go_300 (by decide) sh_159 (Nat.le_of_ble_eq_true rfl) rfl ?_
        refine E_vret dX12_go_303 rfl rfl ?_
        refine hq _ ⟨?_, ?_, ?_, fun z => absurd (Or.inl z) hsg, fun z => absurd (Or.inr z) hsg, fun _ _ _ => ?_, fun z _ => ⟨fun w => absurd w hsg, fun _ => ?_⟩⟩ ?_
        · rw [wr_at, pk_us]
        · rw [wr_at, pk_un (by decide), wr_at, pk_un (by decide), wr_at, pk_un (by decide), wr_at, pk_us]
        · rw [wr_at, pk_un (by decide), wr_at, pk_un (by decide), wr_at, pk_us, rtk, if_neg n8, if_neg (fun z => hsg (Or.inl z)), if_neg (fun z => hsg (Or.inr z)), if_neg n9]
        · rw [wr_at, pk_un (by decide), wr_at, pk_us]
        · rw [wr_at, pk_un (by decide), wr_at, pk_un (by decide), wr_at, pk_un (by decide), wr_at, pk_un (by decide)]
          by_cases w : isWd t
          · rw [en8.1 w]; exact nI_lt (by omega) (by omega)
          · exact Int32.lt_of_lt_of_le (en8.2 w) (nI_le (by omega) (by omega))
        · exact (c8.tr ((GFr.w (j := 10) (by omega) (by omega)).tr (GFr.w (j := 11) (by omega) (by omega)))).tr ((GFr.w (j := 12) (by omega) (by omega)).tr (GFr.w (j := 9) (by omega) (by omega)))
end Gr
