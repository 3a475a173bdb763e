/-! the class's tokens -/
def CT (S : SS) (b : Nat → Int32) (n : Nat) : Prop := S 3 1 = nI n ∧ ∀ k, k < n → S 4 k = b k
def CFr (S S' : SS) : Prop := (∀ j, (j < 2 ∨ 4 < j) → S' 3 j = S 3 j) ∧ ∀ k, k ≠ 3 → S' k = S k
theorem CFr.rf {S : SS} : CFr S S := ⟨fun _ _ => rfl, fun _ _ => rfl⟩
theorem CFr.tr {S S' S'' : SS} (h : CFr S S') (h' : CFr S' S'') : CFr S S'' := ⟨fun j a => (h'.1 j a).trans (h.1 j a), fun k a => (h'.2 k a).trans (h.2 k a)⟩
theorem CFr.w {S : SS} {j : Nat} {x : Int32} (h1 : 2 ≤ j) (h2 : j ≤ 4) : CFr S (wr S 3 j x) := ⟨fun i hi => by rw [wr_at, pk_un (by omega)], fun k hk => wr_ne hk⟩
theorem CT.cf {S S' : SS} {b : Nat → Int32} {n : Nat} (h : CT S b n) (hf : CFr S S') : CT S' b n := ⟨by rw [hf.1 1 (by omega)]; exact h.1, fun k hk => by rw [hf.2 4 (by omega)]; exact h.2 k hk⟩
def MKc (S : SS) (s e : Nat) (t : Int32) : Prop := S 3 2 = nI s ∧ S 3 3 = nI e ∧ S 3 4 = t
section Gc
variable {Θ : Th} {d : Nat} {S : SS} {b : Nat → Int32} {n : Nat}
theorem s_X7_isWord {Q : Int32 → HP → Prop} {t : Int32} (hq : Q (if isWd t then 1 else 0) (lay Θ S)) : C Θ d 0 0 yX7_isWord cX7_isWord 1 (some .boolean) [.int t] 183 (lay Θ S) (Qi Q) := by
  refine C_of rfl rfl (Nat.le_of_ble_eq_true rfl) ?_
  refine E_iload_n dX7_isWord_0 rfl ?_
  refine E_sipush (v := 256) dX7_isWord_1 (by decide) ?_
  refine E_icmp_eq dX7_isWord_4 (fun c4 => ?_) (fun c4 => ?_)
  · refine E_ic (v := 1) dX7_isWord_14 (by decide) ?_
    refine E_goto dX7_isWord_15 ?_
    refine E_iret dX7_isWord_19 rfl rfl ?_
    rw [if_pos (Or.inl c4)] at hq
    exact hq
  · refine E_iload_n dX7_isWord_7 rfl ?_
    refine E_sipush (v := 257) dX7_isWord_8 (by decide) ?_
    refine E_icmp_ne dX7_isWord_11 (fun c11 => ?_) (fun c11 => ?_)
    · refine E_ic (v := 0) dX7_isWord_18 (by decide) ?_
      refine E_iret dX7_isWord_19 rfl rfl ?_
      rw [if_neg (fun z => z.elim c4 c11)] at hq
      exact hq
    · refine E_ic (v := 1) dX7_isWord_14 (by decide) ?_
      refine E_goto dX7_isWord_15 ?_
      refine E_iret dX7_isWord_19 rfl rfl ?_
      rw [if_pos (Or.inr c11)] at hq
      exact hq
theorem s_X7_sortOf {Q : Int32 → HP → Prop} {x : Int32} (hq : Q (soT x) (lay Θ S)) : C Θ d 0 0 yX7_sortOf cX7_sortOf 1 (some .int) [.int x] 183 (lay Θ S) (Qi Q) := by
  refine C_of rfl rfl (Nat.le_of_ble_eq_true rfl) ?_
  refine E_iload_n dX7_sortOf_0 rfl ?_
  refine E_bipush (v := 97) dX7_sortOf_1 (by decide) ?_
  refine E_icmp_lt dX7_sortOf_3 (fun c3 => ?_) (fun c3 => ?_)
  · refine E_iload_n dX7_sortOf_16 rfl ?_
    refine E_bipush (v := 48) dX7_sortOf_17 (by decide) ?_
    refine E_icmp_lt dX7_sortOf_19 (fun c19 => ?_) (fun c19 => ?_)
    · refine E_iload_n dX7_sortOf_34 rfl ?_
      refine E_iret dX7_sortOf_35 rfl rfl ?_
      rw [soT, if_neg (fun z => i_le c3 z.1), if_neg (fun z => i_le c19 z.1)] at hq
      exact hq
    · refine E_iload_n dX7_sortOf_22 rfl ?_
      refine E_bipush (v := 57) dX7_sortOf_23 (by decide) ?_
      refine E_icmp_gt dX7_sortOf_25 (fun c25 => ?_) (fun c25 => ?_)
      · refine E_iload_n dX7_sortOf_34 rfl ?_
        refine E_iret dX7_sortOf_35 rfl rfl ?_
        rw [soT, if_neg (fun z => i_le c3 z.1), if_neg (fun z => i_le c25 z.2)] at hq
        exact hq
      · refine E_sipush (v := 257) dX7_sortOf_28 (by decide) ?_
        refine E_goto dX7_sortOf_31 ?_
        refine E_iret dX7_sortOf_35 rfl rfl ?_
        rw [soT, if_neg (fun z => i_le c3 z.1), if_pos ⟨i_nlt c19, i_nlt c25⟩] at hq
        exact hq
  · refine E_iload_n dX7_sortOf_6 rfl ?_
    refine E_bipush (v := 122) dX7_sortOf_7 (by decide) ?_
    refine E_icmp_gt dX7_sortOf_9 (fun c9 => ?_) (fun c9 => ?_)
    · refine E_iload_n dX7_sortOf_16 rfl ?_
      refine E_bipush (v := 48) dX7_sortOf_17 (by decide) ?_
      refine E_icmp_lt dX7_sortOf_19 (fun c19 => ?_) (fun c19 => ?_)
      · refine E_iload_n dX7_sortOf_34 rfl ?_
        refine E_iret dX7_sortOf_35 rfl rfl ?_
        rw [soT, if_neg (fun z => i_le c9 z.2), if_neg (fun z => i_le c19 z.1)] at hq
        exact hq
      · refine E_iload_n dX7_sortOf_22 rfl ?_
        refine E_bipush (v := 57) dX7_sortOf_23 (by decide) ?_
        refine E_icmp_gt dX7_sortOf_25 (fun c25 => ?_) (fun c25 => ?_)
        · refine E_iload_n dX7_sortOf_34 rfl ?_
          refine E_iret dX7_sortOf_35 rfl rfl ?_
          rw [soT, if_neg (fun z => i_le c9 z.2), if_neg (fun z => i_le c25 z.2)] at hq
          exact hq
        · refine E_sipush (v := 257) dX7_sortOf_28 (by decide) ?_
          refine E_goto dX7_sortOf_31 ?_
          refine E_iret dX7_sortOf_35 rfl rfl ?_
          rw [soT, if_neg (fun z => i_le c9 z.2), if_pos ⟨i_nlt c19, i_nlt c25⟩] at hq
          exact hq
    · refine E_sipush (v := 256) dX7_sortOf_12 (by decide) ?_
      refine E_iret dX7_sortOf_15 rfl rfl ?_
      rw [soT, if_pos ⟨i_nlt c3, i_nlt c9⟩] at hq
      exact hq
theorem l21_X7 {Q : HP → Prop} {x1 x2 : Int32} (hn : n ≤ 96) : ∀ (f p : Nat), p + f = n → ∀ (S : SS), CT S b n → S 3 2 = nI p → (∀ S', S' 3 2 = nI (skF b f p) → CFr S S' → E Θ (d + 1) 0 0 yX7_goOn cX7_goOn 3 none 0 0 183 (lay Θ S') 59 [(2, .int x2), (1, .int x1), (0, .ref (tb Θ + 3))] [] (Qv Q)) → E Θ (d + 1) 0 0 yX7_goOn cX7_goOn 3 none 0 0 183 (lay Θ S) 21 [(2, .int x2), (1, .int x1), (0, .ref (tb Θ + 3))] [] (Qv Q) := by
  intro f
  induction f with
  | zero =>
    intro p hpf S hT hp K
    refine E_aload_n dX7_goOn_21 rfl ?_
    refine L_get fX7_50 dX7_goOn_22 (by decide) sh_3 rfl ?_
    rw [hp]
    refine E_aload_n dX7_goOn_25 rfl ?_
    refine L_get fX7_15 dX7_goOn_26 (by decide) sh_3 rfl ?_
    rw [hT.1]
    refine E_icmp_ge dX7_goOn_29 (fun _ => ?_) (fun c => absurd (nI_le (by omega) (by omega)) c)
    exact E.loc (by exact ⟨rfl, rfl, rfl, trivial⟩) (K S hp CFr.rf)
  | succ f ih =>
    intro p hpf S hT hp K
    refine E_aload_n dX7_goOn_21 rfl ?_
    refine L_get fX7_50 dX7_goOn_22 (by decide) sh_3 rfl ?_
    rw [hp]
    refine E_aload_n dX7_goOn_25 rfl ?_
    refine L_get fX7_15 dX7_goOn_26 (by decide) sh_3 rfl ?_
    rw [hT.1]
    refine E_icmp_ge dX7_goOn_29 (fun c => absurd c (fun z => absurd ((nI_leI (by omega) (by omega)).mp z) (by omega))) (fun _ => ?_)
    refine E_aload_n dX7_goOn_32 rfl ?_
    refine L_get fX7_9 dX7_goOn_33 (by decide) sh_3 rfl ?_
    refine E_aload_n dX7_goOn_36 rfl ?_
    refine L_get fX7_50 dX7_goOn_37 (by decide) sh_3 rfl ?_
    rw [hp]
    refine L_iald (j := p) dX7_goOn_40 (by decide) sh_4 rfl (by omega) (by decide) ?_
    rw [hT.2 p (by omega)]
    refine E_bipush (v := 32) dX7_goOn_41 (by decide) ?_
    refine E_icmp_ne dX7_goOn_43 (fun c43 => ?_) (fun c43 => ?_)
    · rw [skF, if_neg c43] at K
      exact E.loc (by exact ⟨rfl, rfl, rfl, trivial⟩) (K S hp CFr.rf)
    · refine E_aload_n dX7_goOn_46 rfl ?_
      refine E_dup dX7_goOn_47 rfl ?_
      refine L_get fX7_50 dX7_goOn_48 (by decide) sh_3 rfl ?_
      rw [hp]
      refine E_ic (v := 1) dX7_goOn_51 (by decide) ?_
      refine E_iadd dX7_goOn_52 ?_
      rw [nI_1]
      refine L_puti fX7_50 dX7_goOn_53 (by decide) sh_3 (Nat.le_of_ble_eq_true rfl) rfl ?_
      refine E_goto dX7_goOn_56 ?_
      rw [skF, if_pos c43] at K
      exact E.loc (by exact ⟨rfl, rfl, rfl, trivial⟩) (ih (p + 1) (by omega) _ (hT.cf (CFr.w (by decide) (by decide))) (by rw [wr_at, pk_us]) (fun S9 h9 f9 => K S9 h9 ((CFr.w (by decide) (by decide)).tr f9)))
def DFr (S S' : SS) : Prop := (∀ j, j ≠ 3 → S' 3 j = S 3 j) ∧ ∀ k, k ≠ 3 → S' k = S k
theorem DFr.rf {S : SS} : DFr S S := ⟨fun _ _ => rfl, fun _ _ => rfl⟩
theorem DFr.tr {S S' S'' : SS} (h : DFr S S') (h' : DFr S' S'') : DFr S S'' := ⟨fun j a => (h'.1 j a).trans (h.1 j a), fun k a => (h'.2 k a).trans (h.2 k a)⟩
theorem DFr.w {S : SS} {x : Int32} : DFr S (wr S 3 3 x) := ⟨fun i hi => by rw [wr_at, pk_un hi], fun k hk => wr_ne hk⟩
theorem DFr.c {S S' : SS} (h : DFr S S') : CFr S S' := ⟨fun j a => h.1 j (by omega), h.2⟩
theorem l112_X7 {Q : HP → Prop} {x1 x2 c : Int32} (hw : isWd c) (hn : n ≤ 96) : ∀ (f p : Nat), p + f = n → ∀ (S : SS), CT S b n → S 3 3 = nI p → S 3 4 = c → (∀ S', S' 3 3 = nI (wdF b c f p) → DFr S S' → E Θ (d + 1) 0 0 yX7_goOn cX7_goOn 3 none 0 0 183 (lay Θ S') 165 [(2, .int x2), (1, .int x1), (0, .ref (tb Θ + 3))] [] (Qv Q)) → E Θ (d + 1) 0 0 yX7_goOn cX7_goOn 3 none 0 0 183 (lay Θ S) 112 [(2, .int x2), (1, .int x1), (0, .ref (tb Θ + 3))] [] (Qv Q) := by
  intro f
  induction f with
  | zero =>
    intro p hpf S hT hp ht K
    refine E_aload_n dX7_goOn_112 rfl ?_
    refine L_get fX7_23 dX7_goOn_113 (by decide) sh_3 rfl ?_
    rw [ht]
    refine E_S1i sX7_46 dX7_goOn_116 (Nat.le_of_ble_eq_true rfl) (s_X7_isWord ?_)
    refine E_if_eq dX7_goOn_119 (fun c => absurd c (by rw [if_pos hw]; decide)) (fun _ => ?_)
    refine E_aload_n dX7_goOn_122 rfl ?_
    refine L_get fX7_26 dX7_goOn_123 (by decide) sh_3 rfl ?_
    rw [hp]
    refine E_aload_n dX7_goOn_126 rfl ?_
    refine L_get fX7_15 dX7_goOn_127 (by decide) sh_3 rfl ?_
    rw [hT.1]
    refine E_icmp_ge dX7_goOn_130 (fun _ => ?_) (fun c => absurd (nI_le (by omega) (by omega)) c)
    exact E.loc (by exact ⟨rfl, rfl, rfl, trivial⟩) (K S hp DFr.rf)
  | succ f ih =>
    intro p hpf S hT hp ht K
    refine E_aload_n dX7_goOn_112 rfl ?_
    refine L_get fX7_23 dX7_goOn_113 (by decide) sh_3 rfl ?_
    rw [ht]
    refine E_S1i sX7_46 dX7_goOn_116 (Nat.le_of_ble_eq_true rfl) (s_X7_isWord ?_)
    refine E_if_eq dX7_goOn_119 (fun c => absurd c (by rw [if_pos hw]; decide)) (fun _ => ?_)
    refine E_aload_n dX7_goOn_122 rfl ?_
    refine L_get fX7_26 dX7_goOn_123 (by decide) sh_3 rfl ?_
    rw [hp]
    refine E_aload_n dX7_goOn_126 rfl ?_
    refine L_get fX7_15 dX7_goOn_127 (by decide) sh_3 rfl ?_
    rw [hT.1]
    refine E_icmp_ge dX7_goOn_130 (fun c => absurd c (fun z => absurd ((nI_leI (by omega) (by omega)).mp z) (by omega))) (fun _ => ?_)
    refine E_aload_n dX7_goOn_133 rfl ?_
    refine L_get fX7_9 dX7_goOn_134 (by decide) sh_3 rfl ?_
    refine E_aload_n dX7_goOn_137 rfl ?_
    refine L_get fX7_26 dX7_goOn_138 (by decide) sh_3 rfl ?_
    rw [hp]
    refine L_iald (j := p) dX7_goOn_141 (by decide) sh_4 rfl (by omega) (by decide) ?_
    rw [hT.2 p (by omega)]
    refine E_S1i sX7_53 dX7_goOn_142 (Nat.le_of_ble_eq_true rfl) (s_X7_sortOf ?_)
    refine E_aload_n dX7_goOn_145 rfl ?_
    refine L_get fX7_23 dX7_goOn_146 (by decide) sh_3 rfl ?_
    rw [ht]
    refine E_icmp_ne dX7_goOn_149 (fun c149 => ?_) (fun c149 => ?_)
    · rw [wdF, if_neg c149] at K
      exact E.loc (by exact ⟨rfl, rfl, rfl, trivial⟩) (K S hp DFr.rf)
    · refine E_aload_n dX7_goOn_152 rfl ?_
      refine E_dup dX7_goOn_153 rfl ?_
      refine L_get fX7_26 dX7_goOn_154 (by decide) sh_3 rfl ?_
      rw [hp]
      refine E_ic (v := 1) dX7_goOn_157 (by decide) ?_
      refine E_iadd dX7_goOn_158 ?_
      rw [nI_1]
      refine L_puti fX7_26 dX7_goOn_159 (by decide) sh_3 (Nat.le_of_ble_eq_true rfl) rfl ?_
      refine E_goto dX7_goOn_162 ?_
      rw [wdF, if_pos c149] at K
      exact E.loc (by exact ⟨rfl, rfl, rfl, trivial⟩) (ih (p + 1) (by omega) _ (hT.cf (CFr.w (by decide) (by decide))) (by rw [wr_at, pk_us]) (by rw [wr_at, pk_un (by decide)]; exact ht) (fun S9 h9 f9 => K S9 h9 (DFr.tr DFr.w f9)))
theorem t165_X7 {Q : HP → Prop} {s e e0 : Nat} {c t x1 x2 : Int32} (h96 : s ≤ 96) (h96' : e0 ≤ 96) (hs : S 3 2 = nI s) (he : S 3 3 = nI e) (ht : S 3 4 = c) (hx1 : x1 = nI e0) (hx2 : x2 = if isWd t then 1 else 0) (hq : ∀ S', MKc S' s e (if isWd c ∧ isWd t ∧ s = e0 then 259 else c) → CFr S S' → Q (lay Θ S')) : E Θ (d + 1) 0 0 yX7_goOn cX7_goOn 3 none 0 0 183 (lay Θ S) 165 [(2, .int x2), (1, .int x1), (0, .ref (tb Θ + 3))] [] (Qv Q) := by
  have hW : ¬ (if isWd c then (1 : Int32) else 0) = 0 → isWd c := fun z => Decidable.not_not.mp (fun y => z (by rw [if_neg y]))
  have hW2 : ¬ x2 = 0 → isWd t := fun z => Decidable.not_not.mp (fun y => z (by rw [hx2, if_neg y]))
  refine E_aload_n dX7_goOn_165 rfl ?_
  refine L_get fX7_23 dX7_goOn_166 (by decide) sh_3 rfl ?_
  rw [ht]
  refine E_S1i sX7_46 dX7_goOn_169 (Nat.le_of_ble_eq_true rfl) (s_X7_isWord ?_)
  refine E_if_eq dX7_goOn_172 (fun c172 => ?_) (fun c172 => ?_)
  · refine E_vret dX7_goOn_194 rfl rfl ?_
    exact hq S ⟨hs, he, by rw [ht, if_neg (fun z => absurd c172 (by rw [if_pos z.1]; decide))]⟩ CFr.rf
  · refine E_iload_n dX7_goOn_175 rfl ?_
    refine E_if_eq dX7_goOn_176 (fun c176 => ?_) (fun c176 => ?_)
    · refine E_vret dX7_goOn_194 rfl rfl ?_
      exact hq S ⟨hs, he, by rw [ht, if_neg (fun z => absurd c176 (by rw [hx2, if_pos z.2.1]; decide))]⟩ CFr.rf
    · refine E_aload_n dX7_goOn_179 rfl ?_
      refine L_get fX7_50 dX7_goOn_180 (by decide) sh_3 rfl ?_
      rw [hs]
      refine E_iload_n dX7_goOn_183 rfl ?_
      refine E_icmp_ne dX7_goOn_184 (fun c184 => ?_) (fun c184 => ?_)
      · refine E_vret dX7_goOn_194 rfl rfl ?_
        exact hq S ⟨hs, he, by rw [ht, if_neg (fun z => c184 (by rw [hx1, z.2.2]))]⟩ CFr.rf
      · refine E_aload_n dX7_goOn_187 rfl ?_
        refine E_sipush (v := 259) dX7_goOn_188 (by decide) ?_
        refine L_puti fX7_23 dX7_goOn_191 (by decide) sh_3 (Nat.le_of_ble_eq_true rfl) rfl ?_
        refine E_vret dX7_goOn_194 rfl rfl ?_
        exact hq _ ⟨by rw [wr_at, pk_un (by decide)]; exact hs, by rw [wr_at, pk_un (by decide)]; exact he, by rw [wr_at, pk_us, if_pos ⟨hW c172, hW2 c176, nI_inj (by omega) (by omega) (c184.trans hx1)⟩]⟩ (CFr.w (by decide) (by decide))
theorem t59_X7 {Q : HP → Prop} {e : Nat} {t x1 x2 : Int32} {S9 : SS} (hn : n ≤ 96) (he : e ≤ n) (T9 : CT S9 b n) (h9' : S9 3 2 = nI (nxS b n e)) (hx1 : x1 = nI e) (hx2 : x2 = if isWd t then 1 else 0) (f9 : CFr S S9) (hq : ∀ S', MKc S' (nxS b n e) (nxE b n e) (nxK b n e t) → CFr S S' → Q (lay Θ S')) : E Θ (d + 1) 0 0 yX7_goOn cX7_goOn 3 none 0 0 183 (lay Θ S9) 59 [(2, .int x2), (1, .int x1), (0, .ref (tb Θ + 3))] [] (Qv Q) := by
  have f1 : CFr S S := CFr.rf
  have hS := nxS_le (b := b) he
  by_cases hc : n ≤ nxS b n e
  · refine E_aload_n dX7_goOn_59 rfl ?_
    refine E_aload_n dX7_goOn_60 rfl ?_
    refine L_get fX7_50 dX7_goOn_61 (by decide) sh_3 rfl ?_
    rw [h9']
    refine L_puti fX7_26 dX7_goOn_64 (by decide) sh_3 (Nat.le_of_ble_eq_true rfl) rfl ?_
    refine E_aload_n dX7_goOn_67 rfl ?_
    refine L_get fX7_50 dX7_goOn_68 (by decide) sh_3 rfl ?_
    rw [wr_at, pk_un (by decide), h9']
    refine E_aload_n dX7_goOn_71 rfl ?_
    refine L_get fX7_15 dX7_goOn_72 (by decide) sh_3 rfl ?_
    rw [wr_at, pk_un (by decide), T9.1]
    refine E_icmp_lt dX7_goOn_75 (fun c => absurd c (fun z => absurd ((nI_ltI (by omega) (by omega)).mp z) (by omega))) (fun _ => ?_)
    refine E_aload_n dX7_goOn_78 rfl ?_
    refine E_sipush (v := 258) dX7_goOn_79 (by decide) ?_
    refine L_puti fX7_23 dX7_goOn_82 (by decide) sh_3 (Nat.le_of_ble_eq_true rfl) rfl ?_
    refine E_vret dX7_goOn_85 rfl rfl ?_
    refine hq _ ⟨?_, ?_, ?_⟩ ((f1.tr f9).tr ((CFr.w (by decide) (by decide)).tr (CFr.w (by decide) (by decide))))
    · rw [wr_at, pk_un (by decide), wr_at, pk_un (by decide)]; exact h9'
    · rw [wr_at, pk_un (by decide), wr_at, pk_us, nxE, if_pos hc]
    · rw [wr_at, pk_us, nxK, if_pos hc]
  · refine E_aload_n dX7_goOn_59 rfl ?_
    refine E_aload_n dX7_goOn_60 rfl ?_
    refine L_get fX7_50 dX7_goOn_61 (by decide) sh_3 rfl ?_
    rw [h9']
    refine L_puti fX7_26 dX7_goOn_64 (by decide) sh_3 (Nat.le_of_ble_eq_true rfl) rfl ?_
    refine E_aload_n dX7_goOn_67 rfl ?_
    refine L_get fX7_50 dX7_goOn_68 (by decide) sh_3 rfl ?_
    rw [wr_at, pk_un (by decide), h9']
    refine E_aload_n dX7_goOn_71 rfl ?_
    refine L_get fX7_15 dX7_goOn_72 (by decide) sh_3 rfl ?_
    rw [wr_at, pk_un (by decide), T9.1]
    refine E_icmp_lt dX7_goOn_75 (fun _ => ?_) (fun c => absurd (nI_lt (by omega) (by omega)) c)
    refine E_aload_n dX7_goOn_86 rfl ?_
    refine E_aload_n dX7_goOn_87 rfl ?_
    refine L_get fX7_9 dX7_goOn_88 (by decide) sh_3 rfl ?_
    refine E_aload_n dX7_goOn_91 rfl ?_
    refine L_get fX7_50 dX7_goOn_92 (by decide) sh_3 rfl ?_
    rw [wr_at, pk_un (by decide), h9']
    refine L_iald (j := (nxS b n e)) dX7_goOn_95 (by decide) sh_4 rfl (by omega) (by decide) ?_
    rw [wr_ne (by decide), T9.2 _ (by omega)]
    refine E_S1i sX7_53 dX7_goOn_96 (Nat.le_of_ble_eq_true rfl) (s_X7_sortOf ?_)
    refine L_puti fX7_23 dX7_goOn_99 (by decide) sh_3 (Nat.le_of_ble_eq_true rfl) rfl ?_
    refine E_aload_n dX7_goOn_102 rfl ?_
    refine E_dup dX7_goOn_103 rfl ?_
    refine L_get fX7_26 dX7_goOn_104 (by decide) sh_3 rfl ?_
    rw [wr_at, pk_un (by decide), wr_at, pk_us]
    refine E_ic (v := 1) dX7_goOn_107 (by decide) ?_
    refine E_iadd dX7_goOn_108 ?_
    rw [nI_1]
    refine L_puti fX7_26 dX7_goOn_109 (by decide) sh_3 (Nat.le_of_ble_eq_true rfl) rfl ?_
    have fB : CFr S9 (wr (wr (wr S9 3 3 (nI (nxS b n e))) 3 4 (soT (b (nxS b n e)))) 3 3 (nI (nxS b n e + 1))) := (CFr.w (by decide) (by decide)).tr ((CFr.w (by decide) (by decide)).tr (CFr.w (by decide) (by decide)))
    have sB : (wr (wr (wr S9 3 3 (nI (nxS b n e))) 3 4 (soT (b (nxS b n e)))) 3 3 (nI (nxS b n e + 1))) 3 2 = nI (nxS b n e) := by rw [wr_at, pk_un (by decide), wr_at, pk_un (by decide), wr_at, pk_un (by decide)]; exact h9'
    have tB : (wr (wr (wr S9 3 3 (nI (nxS b n e))) 3 4 (soT (b (nxS b n e)))) 3 3 (nI (nxS b n e + 1))) 3 4 = soT (b (nxS b n e)) := by rw [wr_at, pk_un (by decide), wr_at, pk_us]
    have eB : (wr (wr (wr S9 3 3 (nI (nxS b n e))) 3 4 (soT (b (nxS b n e)))) 3 3 (nI (nxS b n e + 1))) 3 3 = nI (nxS b n e + 1) := by rw [wr_at, pk_us]
    by_cases hw : isWd (soT (b (nxS b n e)))
    · refine E.loc (by exact ⟨rfl, rfl, rfl, trivial⟩) (l112_X7 hw hn (n - (nxS b n e + 1)) (nxS b n e + 1) (by omega) _ (T9.cf fB) eB tB (fun S8 e8 f8 => ?_))
      refine t165_X7 (s := nxS b n e) (e0 := e) (t := t) (by omega) (by omega) ((f8.1 2 (by decide)).trans sB) e8 ((f8.1 4 (by decide)).trans tB) hx1 hx2 (fun S7 k7 f7 => ?_)
      refine hq S7 ?_ ((((f1.tr f9).tr fB).tr f8.c).tr f7)
      rw [nxK, if_neg hc, nxE, if_neg hc, if_pos hw]
      exact k7
    · refine E_aload_n dX7_goOn_112 rfl ?_
      refine L_get fX7_23 dX7_goOn_113 (by decide) sh_3 rfl ?_
      rw [tB]
      refine E_S1i sX7_46 dX7_goOn_116 (Nat.le_of_ble_eq_true rfl) (s_X7_isWord ?_)
      refine E_if_eq dX7_goOn_119 (fun _ => ?_) (fun c => absurd (by rw [if_neg hw]) c)
      refine E.loc (by exact ⟨rfl, rfl, rfl, trivial⟩) (t165_X7 (s := nxS b n e) (e0 := e) (t := t) (by omega) (by omega) sB eB tB hx1 hx2 (fun S7 k7 f7 => ?_))
      refine hq S7 ?_ (((f1.tr f9).tr fB).tr f7)
      rw [nxK, if_neg hc, nxE, if_neg hc, if_neg hw]
      exact k7
theorem s_X7_goOn {Q : HP → Prop} (hT : CT S b n) (hn : n ≤ 96) {s e : Nat} {t : Int32} (hk : MKc S s e t) (he : e ≤ n) (hq : ∀ S', MKc S' (nxS b n e) (nxE b n e) (nxK b n e t) → CFr S S' → Q (lay Θ S')) : C Θ (d + 1) 0 0 yX7_goOn cX7_goOn 3 none [.ref (tb Θ + 3)] 183 (lay Θ S) (Qv Q) := by
  refine C_of rfl rfl (Nat.le_of_ble_eq_true rfl) ?_
  refine E_aload_n dX7_goOn_0 rfl ?_
  refine L_get fX7_26 dX7_goOn_1 (by decide) sh_3 rfl ?_
  rw [hk.2.1]
  refine E_istore_n dX7_goOn_4 (by decide) ?_
  refine E_aload_n dX7_goOn_5 rfl ?_
  refine L_get fX7_23 dX7_goOn_6 (by decide) sh_3 rfl ?_
  rw [hk.2.2]
  refine E_S1i sX7_46 dX7_goOn_9 (Nat.le_of_ble_eq_true rfl) (s_X7_isWord ?_)
  refine E_istore_n dX7_goOn_12 (by decide) ?_
  refine E_aload_n dX7_goOn_13 rfl ?_
  refine E_aload_n dX7_goOn_14 rfl ?_
  refine L_get fX7_26 dX7_goOn_15 (by decide) sh_3 rfl ?_
  rw [hk.2.1]
  refine L_puti fX7_50 dX7_goOn_18 (by decide) sh_3 (Nat.le_of_ble_eq_true rfl) rfl ?_
  refine E.loc (by exact ⟨rfl, rfl, rfl, trivial⟩) (l21_X7 hn (n - e) e (by omega) _ (hT.cf (CFr.w (by decide) (by decide))) (by rw [wr_at, pk_us]) (fun S9 h9 f9 => ?_))
  exact t59_X7 hn he ((hT.cf (CFr.w (by decide) (by decide))).cf f9) h9 rfl rfl ((CFr.w (by decide) (by decide)).tr f9) hq
end Gc
