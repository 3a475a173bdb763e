/-! the reference's expressions -/
/-- all of the reference's reading that a step may change -/
def PFr (S S' : SS) : Prop := (∀ j, (j < 9 ∨ 13 < j) → j ≠ 18 → j ≠ 19 → j ≠ 21 → S' 159 j = S 159 j) ∧ ∀ k, k ≠ 159 → k ≠ 169 → k ≠ 170 → k ≠ 171 → S' k = S k
theorem PFr.rf {S : SS} : PFr S S := ⟨fun _ _ _ _ _ => rfl, fun _ _ _ _ _ => rfl⟩
theorem PFr.tr {S S' S'' : SS} (h : PFr S S') (h' : PFr S' S'') : PFr S S'' := ⟨fun j a b c e => (h'.1 j a b c e).trans (h.1 j a b c e), fun k a b c e => (h'.2 k a b c e).trans (h.2 k a b c e)⟩
theorem GFr.p {S S' : SS} (h : GFr S S') : PFr S S' := ⟨fun j a _ _ _ => h.1 j a, fun k a _ _ _ => h.2 k a⟩
theorem SFr.p {S S' : SS} (h : SFr S S') : PFr S S' := ⟨fun j _ b _ e => h.1 j b e, fun k a b _ _ => h.2 k a b⟩
theorem PFr.w {S : SS} {j : Nat} {x : Int32} (h : j = 18 ∨ j = 19 ∨ j = 21) : PFr S (wr S 159 j x) := ⟨fun i _ b c e => by rw [wr_at, pk_un (by omega)], fun k a _ _ _ => wr_ne a⟩
theorem PFr.w2 {S : SS} {c j : Nat} {x : Int32} (h : c = 169 ∨ c = 170 ∨ c = 171) : PFr S (wr S c j x) := ⟨fun i _ _ _ _ => by rw [wr_ne (by omega)], fun k _ a b e => wr_ne (by omega)⟩
theorem MT.pf {S S' : SS} {b : Nat → Int32} {n : Nat} (h : MT S b n) (hf : PFr S S') : MT S' b n := ⟨by rw [hf.1 8 (by omega) (by omega) (by omega) (by omega)]; exact h.1, fun k hk => by rw [hf.2 166 (by omega) (by omega) (by omega) (by omega)]; exact h.2 k hk⟩
theorem MKr.sf {S S' : SS} {b : Nat → Int32} {s e : Nat} {t : Int32} (h : MKr S b s e t) (hf : ∀ j, 9 ≤ j → j ≤ 13 → S' 159 j = S 159 j) : MKr S' b s e t := by
  unfold MKr
  rw [hf 9 (by omega) (by omega), hf 10 (by omega) (by omega), hf 11 (by omega) (by omega), hf 12 (by omega) (by omega), hf 13 (by omega) (by omega)]
  exact h
/-- go on from here -/
theorem MKr.en {S : SS} {b : Nat → Int32} {s e : Nat} {t : Int32} (h : MKr S b s e t) (h1 : ¬ t = 258) (h2 : ¬ t = 259) : EnO (S 159 13) e t := h.2.2.2.2.2.2 h2 h1
theorem RPS.g {S S' : SS} {W Cd : List Int32} (h : RPS S W Cd) (h1 : S' 159 21 = S 159 21) (h2 : S' 159 18 = S 159 18) (h3 : S' 170 = S 170) (h4 : S' 169 = S 169) : RPS S' W Cd := by
  unfold RPS
  rw [h1, h2, h3, h4]
  exact h
section Ex
variable {Θ : Th} {d : Nat} {S : SS} {b : Nat → Int32} {n : Nat}
theorem s_X12_takesPart {Q : Int32 → HP → Prop} (hT : MT S b n) (hb : byOk b n) (hn : n ≤ 96) {s e key : Nat} {t : Int32} (hk : MKr S b s e t) (hto : TkO b n s e t) (hkey : S 159 14 = nI key) (h3 : key < 3) {W Cd : List Int32} (hR : RPS S W Cd) {at_ : Nat} (hat : S 159 19 = nI at_) (h96 : ¬ t = 258 → W.length + Cd.length < 96) (hat9 : at_ ≤ 96) (hq : (paF b key s e t = none → Q 0 (lay Θ S)) ∧ ∀ c, paF b key s e t = some c → ∀ S', MKr S' b (nxS b n e) (nxE b n e) (nxK b n e t) → RPS S' (stl 6 W (c :: Cd)).1 (stl 6 W (c :: Cd)).2 → S' 159 19 = nI (at_ + 1) → PFr S S' → S' 171 = S 171 → Q 1 (lay Θ S')) : C Θ (d + 2) 0 0 yX12_takesPart cX12_takesPart 2 (some .boolean) [.ref (tb Θ + 159)] 183 (lay Θ S) (Qi Q) := by
  refine C_of rfl rfl (Nat.le_of_ble_eq_true rfl) ?_
  have e0 : S 159 9 = nI e := hk.1
  have e1 : S 159 10 = nI s := hk.2.1
  have hse := hto.1
  have hen := hto.2.1
  rcases hpa : paF b key s e t with _ | c
  · by_cases h6 : t = 256
    · have htk : rtk s e t = 1 := by rw [h6]; rfl
      have hval := hk.2.2.2.1 h6
      have hnn : ¬ (e - s = 1 ∧ ¬ nmR key (b s) < 0) := by
        intro z
        rw [paF, if_neg (by rw [h6]; decide), if_pos h6, if_pos z] at hpa
        cases hpa
      refine E_aload_n dX12_takesPart_0 rfl ?_
      refine L_get fX12_219 dX12_takesPart_1 (by decide) sh_159 rfl ?_
      rw [hk.2.2.1, htk]
      refine E_ic (v := 1) dX12_takesPart_4 (by decide) ?_
      refine E_icmp_ne dX12_takesPart_5 (fun c => absurd rfl c) (fun _ => ?_)
      refine E_aload_n dX12_takesPart_8 rfl ?_
      refine L_get fX12_210 dX12_takesPart_9 (by decide) sh_159 rfl ?_
      rw [e0]
      refine E_aload_n dX12_takesPart_12 rfl ?_
      refine L_get fX12_213 dX12_takesPart_13 (by decide) sh_159 rfl ?_
      rw [e1]
      refine E_isub dX12_takesPart_16 ?_
      rw [pk_sub hse]
      refine E_ic (v := 1) dX12_takesPart_17 (by decide) ?_
      refine E_icmp_ne dX12_takesPart_18 (fun c18 => ?_) (fun c18 => ?_)
      · refine E_ic (v := 0) dX12_takesPart_36 (by decide) ?_
        refine E_istore_n dX12_takesPart_37 (by decide) ?_
        refine E_aload_n dX12_takesPart_38 rfl ?_
        refine L_get fX12_219 dX12_takesPart_39 (by decide) sh_159 rfl ?_
        rw [hk.2.2.1, htk]
        refine E_ic (v := 2) dX12_takesPart_42 (by decide) ?_
        refine E_icmp_eq dX12_takesPart_43 (fun c => absurd c (by decide)) (fun _ => ?_)
        refine E_iload_n dX12_takesPart_46 rfl ?_
        refine E_if_ne dX12_takesPart_47 (fun c => absurd rfl c) (fun _ => ?_)
        refine E_ic (v := 0) dX12_takesPart_50 (by decide) ?_
        refine E_iret dX12_takesPart_51 rfl rfl ?_
        rw [hpa] at hq
        exact hq.1 rfl
      · refine E_aload_n dX12_takesPart_21 rfl ?_
        refine E_aload_n dX12_takesPart_22 rfl ?_
        refine L_get fX12_225 dX12_takesPart_23 (by decide) sh_159 rfl ?_
        rw [hval]
        refine E_V1i vX12_246_12 dX12_takesPart_26 (Nat.le_of_ble_eq_true rfl) (by decide) (sh_159 _) (s_X12_nameOf hkey h3 ?_)
        refine E_if_lt dX12_takesPart_29 (fun _ => ?_) (fun c => absurd (Decidable.not_not.mp (fun z => hnn ⟨nI_inj (by omega) (by decide) c18, z⟩)) c)
        refine E_ic (v := 0) dX12_takesPart_36 (by decide) ?_
        refine E_istore_n dX12_takesPart_37 (by decide) ?_
        refine E_aload_n dX12_takesPart_38 rfl ?_
        refine L_get fX12_219 dX12_takesPart_39 (by decide) sh_159 rfl ?_
        rw [hk.2.2.1, htk]
        refine E_ic (v := 2) dX12_takesPart_42 (by decide) ?_
        refine E_icmp_eq dX12_takesPart_43 (fun c => absurd c (by decide)) (fun _ => ?_)
        refine E_iload_n dX12_takesPart_46 rfl ?_
        refine E_if_ne dX12_takesPart_47 (fun c => absurd rfl c) (fun _ => ?_)
        refine E_ic (v := 0) dX12_takesPart_50 (by decide) ?_
        refine E_iret dX12_takesPart_51 rfl rfl ?_
        rw [hpa] at hq
        exact hq.1 rfl
    · have n1 : ¬ rtk s e t = 1 := by
        unfold rtk
        repeat' split
        all_goals first | decide | (exfalso; exact h6 (by assumption))
      have n2 : ¬ rtk s e t = 2 := by
        by_cases h7 : t = 257
        · rw [paF, if_pos h7] at hpa
          by_cases h4 : e - s ≤ 4
          · rw [if_pos h4] at hpa; cases hpa
          · rw [h7, rtk, if_neg (by decide), if_neg (by decide), if_pos rfl, if_neg h4]; decide
        · unfold rtk
          repeat' split
          all_goals first | decide | (exfalso; exact h7 (by assumption))
      refine E_aload_n dX12_takesPart_0 rfl ?_
      refine L_get fX12_219 dX12_takesPart_1 (by decide) sh_159 rfl ?_
      rw [hk.2.2.1]
      refine E_ic (v := 1) dX12_takesPart_4 (by decide) ?_
      refine E_icmp_ne dX12_takesPart_5 (fun _ => ?_) (fun c => absurd c n1)
      refine E_ic (v := 0) dX12_takesPart_36 (by decide) ?_
      refine E_istore_n dX12_takesPart_37 (by decide) ?_
      refine E_aload_n dX12_takesPart_38 rfl ?_
      refine L_get fX12_219 dX12_takesPart_39 (by decide) sh_159 rfl ?_
      rw [hk.2.2.1]
      refine E_ic (v := 2) dX12_takesPart_42 (by decide) ?_
      refine E_icmp_eq dX12_takesPart_43 (fun c => absurd c n2) (fun _ => ?_)
      refine E_iload_n dX12_takesPart_46 rfl ?_
      refine E_if_ne dX12_takesPart_47 (fun c => absurd rfl c) (fun _ => ?_)
      refine E_ic (v := 0) dX12_takesPart_50 (by decide) ?_
      refine E_iret dX12_takesPart_51 rfl rfl ?_
      rw [hpa] at hq
      exact hq.1 rfl
  · obtain ⟨q, eq, hq3, -, ⟨h7, h4, ec, -⟩ | ⟨h6, e1s, j, ej, hj, eq2⟩⟩ := pa_ok hb hto hpa
    · have htk : rtk s e t = 2 := by rw [h7, rtk, if_neg (by decide), if_neg (by decide), if_pos rfl, if_pos h4]
      have hval : S 159 12 = c := (hk.2.2.2.2.1 h7 h4).trans ec.symm
      have ht8 : ¬ t = 258 := by rw [h7]; decide
      have h96 := h96 ht8
      have ht9 : ¬ t = 259 := by rw [h7]; decide
      refine E_aload_n dX12_takesPart_0 rfl ?_
      refine L_get fX12_219 dX12_takesPart_1 (by decide) sh_159 rfl ?_
      rw [hk.2.2.1, htk]
      refine E_ic (v := 1) dX12_takesPart_4 (by decide) ?_
      refine E_icmp_ne dX12_takesPart_5 (fun _ => ?_) (fun c => absurd c (by decide))
      refine E_ic (v := 0) dX12_takesPart_36 (by decide) ?_
      refine E_istore_n dX12_takesPart_37 (by decide) ?_
      refine E_aload_n dX12_takesPart_38 rfl ?_
      refine L_get fX12_219 dX12_takesPart_39 (by decide) sh_159 rfl ?_
      rw [hk.2.2.1, htk]
      refine E_ic (v := 2) dX12_takesPart_42 (by decide) ?_
      refine E_icmp_eq dX12_takesPart_43 (fun _ => ?_) (fun c => absurd rfl c)
      refine E_aload_n dX12_takesPart_52 rfl ?_
      refine L_get fX12_39 dX12_takesPart_53 (by decide) sh_159 rfl ?_
      refine E_aload_n dX12_takesPart_56 rfl ?_
      refine L_get fX12_243 dX12_takesPart_57 (by decide) sh_159 rfl ?_
      rw [hR.2.1]
      refine E_aload_n dX12_takesPart_60 rfl ?_
      refine L_get fX12_219 dX12_takesPart_61 (by decide) sh_159 rfl ?_
      rw [hk.2.2.1, htk]
      refine E_ic (v := 2) dX12_takesPart_64 (by decide) ?_
      refine E_icmp_ne dX12_takesPart_65 (fun c => absurd rfl c) (fun _ => ?_)
      refine E_aload_n dX12_takesPart_68 rfl ?_
      refine L_get fX12_225 dX12_takesPart_69 (by decide) sh_159 rfl ?_
      rw [hval]
      refine E_goto dX12_takesPart_72 ?_
      refine L_iast (j := Cd.length) dX12_takesPart_87 (by decide) sh_169 rfl (by omega) (by decide) ?_
      refine E_aload_n dX12_takesPart_88 rfl ?_
      refine E_dup dX12_takesPart_89 rfl ?_
      refine L_get fX12_243 dX12_takesPart_90 (by decide) sh_159 rfl ?_
      rw [wr_ne (by decide), hR.2.1]
      refine E_ic (v := 1) dX12_takesPart_93 (by decide) ?_
      refine E_iadd dX12_takesPart_94 ?_
      rw [nI_1]
      refine L_puti fX12_243 dX12_takesPart_95 (by decide) sh_159 (Nat.le_of_ble_eq_true rfl) rfl ?_
      refine E_aload_n dX12_takesPart_98 rfl ?_
      refine E_dup dX12_takesPart_99 rfl ?_
      refine L_get fX12_249 dX12_takesPart_100 (by decide) sh_159 rfl ?_
      rw [wr_at, pk_un (by decide), wr_ne (by decide), hat]
      refine E_ic (v := 1) dX12_takesPart_103 (by decide) ?_
      refine E_iadd dX12_takesPart_104 ?_
      rw [nI_1]
      refine L_puti fX12_249 dX12_takesPart_105 (by decide) sh_159 (Nat.le_of_ble_eq_true rfl) rfl ?_
      refine E_aload_n dX12_takesPart_108 rfl ?_
      refine E_bipush (v := 6) dX12_takesPart_109 (by decide) ?_
      have R8 : RPS (wr (wr (wr S 169 Cd.length c) 159 18 (nI (Cd.length + 1))) 159 19 (nI (at_ + 1))) W (c :: Cd) := by
        refine ⟨?_, ?_, ?_, ?_⟩
        · rw [wr_at, pk_un (by decide), wr_at, pk_un (by decide), wr_ne (by decide)]; exact hR.1
        · rw [wr_at, pk_un (by decide), wr_at, pk_us, List.length_cons]
        · rw [wr_ne (by decide), wr_ne (by decide), wr_ne (by decide)]; exact hR.2.2.1
        · rw [wr_ne (by decide), wr_ne (by decide), wr_at]; exact hR.2.2.2.push
      refine E_V1v vX12_252_12 dX12_takesPart_111 (Nat.le_of_ble_eq_true rfl) (by decide) (sh_159 _) (s_X12_settle (r := 6) (by omega) R8 (by simp only [List.length_cons]; omega) (fun S111 r111 f111 => ?_))
      refine E_aload_n dX12_takesPart_114 rfl ?_
      have f5 : PFr S S111 := ((PFr.w2 (Or.inl rfl)).tr ((PFr.w (Or.inl rfl)).tr (PFr.w (Or.inr (Or.inl rfl))))).tr f111.p
      have k111 : MKr S111 b s e t := hk.sf (fun j h1 h2 => by rw [f111.1 j (by omega) (by omega), wr_at, pk_un (by omega), wr_at, pk_un (by omega), wr_ne (by decide)])
      have T111 := hT.pf f5
      refine E_V0v vX12_234_12 dX12_takesPart_115 (Nat.le_of_ble_eq_true rfl) (by decide) (sh_159 _) (s_X12_go T111 hb hn hen k111.1 (k111.en ht8 ht9) (fun S115 k115 f115 => ?_))
      refine E_ic (v := 1) dX12_takesPart_118 (by decide) ?_
      refine E_iret dX12_takesPart_119 rfl rfl ?_
      rw [hpa] at hq
      refine hq.2 c rfl S115 k115 (r111.g (f115.1 21 (by omega)) (f115.1 18 (by omega)) (f115.2 170 (by omega)) (f115.2 169 (by omega))) ?_ (f5.tr f115.p) ?_
      · rw [f115.1 19 (by omega), f111.1 19 (by omega) (by omega), wr_at, pk_us]
      · rw [f115.2 171 (by omega), f111.2 171 (by omega) (by omega), wr_ne (by decide), wr_ne (by decide), wr_ne (by decide)]
    · have htk : rtk s e t = 1 := by rw [h6]; rfl
      have hval := hk.2.2.2.1 h6
      have ht8 : ¬ t = 258 := by rw [h6]; decide
      have h96 := h96 ht8
      have ht9 : ¬ t = 259 := by rw [h6]; decide
      have eq2 : c = nI (10000 + j) := by rw [eq, eq2]
      refine E_aload_n dX12_takesPart_0 rfl ?_
      refine L_get fX12_219 dX12_takesPart_1 (by decide) sh_159 rfl ?_
      rw [hk.2.2.1, htk]
      refine E_ic (v := 1) dX12_takesPart_4 (by decide) ?_
      refine E_icmp_ne dX12_takesPart_5 (fun c => absurd rfl c) (fun _ => ?_)
      refine E_aload_n dX12_takesPart_8 rfl ?_
      refine L_get fX12_210 dX12_takesPart_9 (by decide) sh_159 rfl ?_
      rw [e0]
      refine E_aload_n dX12_takesPart_12 rfl ?_
      refine L_get fX12_213 dX12_takesPart_13 (by decide) sh_159 rfl ?_
      rw [e1]
      refine E_isub dX12_takesPart_16 ?_
      rw [pk_sub hse]
      refine E_ic (v := 1) dX12_takesPart_17 (by decide) ?_
      refine E_icmp_ne dX12_takesPart_18 (fun c => absurd (by rw [show e - s = 1 by omega]; rfl) c) (fun _ => ?_)
      refine E_aload_n dX12_takesPart_21 rfl ?_
      refine E_aload_n dX12_takesPart_22 rfl ?_
      refine L_get fX12_225 dX12_takesPart_23 (by decide) sh_159 rfl ?_
      rw [hval]
      refine E_V1i vX12_246_12 dX12_takesPart_26 (Nat.le_of_ble_eq_true rfl) (by decide) (sh_159 _) (s_X12_nameOf hkey h3 ?_)
      refine E_if_lt dX12_takesPart_29 (fun c => absurd c (by rw [ej]; exact nI_pos (by omega))) (fun _ => ?_)
      refine E_ic (v := 1) dX12_takesPart_32 (by decide) ?_
      refine E_goto dX12_takesPart_33 ?_
      refine E_istore_n dX12_takesPart_37 (by decide) ?_
      refine E_aload_n dX12_takesPart_38 rfl ?_
      refine L_get fX12_219 dX12_takesPart_39 (by decide) sh_159 rfl ?_
      rw [hk.2.2.1, htk]
      refine E_ic (v := 2) dX12_takesPart_42 (by decide) ?_
      refine E_icmp_eq dX12_takesPart_43 (fun c => absurd c (by decide)) (fun _ => ?_)
      refine E_iload_n dX12_takesPart_46 rfl ?_
      refine E_if_ne dX12_takesPart_47 (fun _ => ?_) (fun c => absurd c (by decide))
      refine E_aload_n dX12_takesPart_52 rfl ?_
      refine L_get fX12_39 dX12_takesPart_53 (by decide) sh_159 rfl ?_
      refine E_aload_n dX12_takesPart_56 rfl ?_
      refine L_get fX12_243 dX12_takesPart_57 (by decide) sh_159 rfl ?_
      rw [hR.2.1]
      refine E_aload_n dX12_takesPart_60 rfl ?_
      refine L_get fX12_219 dX12_takesPart_61 (by decide) sh_159 rfl ?_
      rw [hk.2.2.1, htk]
      refine E_ic (v := 2) dX12_takesPart_64 (by decide) ?_
      refine E_icmp_ne dX12_takesPart_65 (fun _ => ?_) (fun c => absurd c (by decide))
      refine E_sipush (v := 10000) dX12_takesPart_75 (by decide) ?_
      refine E_aload_n dX12_takesPart_78 rfl ?_
      refine E_aload_n dX12_takesPart_79 rfl ?_
      refine L_get fX12_225 dX12_takesPart_80 (by decide) sh_159 rfl ?_
      rw [hval]
      refine E_V1i vX12_246_12 dX12_takesPart_83 (Nat.le_of_ble_eq_true rfl) (by decide) (sh_159 _) (s_X12_nameOf hkey h3 ?_)
      refine E_iadd dX12_takesPart_86 ?_
      rw [ej, show (10000 : Int32) + nI j = nI (10000 + j) from nI_add 10000 j, ← eq2]
      refine L_iast (j := Cd.length) dX12_takesPart_87 (by decide) sh_169 rfl (by omega) (by decide) ?_
      refine E_aload_n dX12_takesPart_88 rfl ?_
      refine E_dup dX12_takesPart_89 rfl ?_
      refine L_get fX12_243 dX12_takesPart_90 (by decide) sh_159 rfl ?_
      rw [wr_ne (by decide), hR.2.1]
      refine E_ic (v := 1) dX12_takesPart_93 (by decide) ?_
      refine E_iadd dX12_takesPart_94 ?_
      rw [nI_1]
      refine L_puti fX12_243 dX12_takesPart_95 (by decide) sh_159 (Nat.le_of_ble_eq_true rfl) rfl ?_
      refine E_aload_n dX12_takesPart_98 rfl ?_
      refine E_dup dX12_takesPart_99 rfl ?_
      refine L_get fX12_249 dX12_takesPart_100 (by decide) sh_159 rfl ?_
      rw [wr_at, pk_un (by decide), wr_ne (by decide), hat]
      refine E_ic (v := 1) dX12_takesPart_103 (by decide) ?_
      refine E_iadd dX12_takesPart_104 ?_
      rw [nI_1]
      refine L_puti fX12_249 dX12_takesPart_105 (by decide) sh_159 (Nat.le_of_ble_eq_true rfl) rfl ?_
      refine E_aload_n dX12_takesPart_108 rfl ?_
      refine E_bipush (v := 6) dX12_takesPart_109 (by decide) ?_
      have R8 : RPS (wr (wr (wr S 169 Cd.length c) 159 18 (nI (Cd.length + 1))) 159 19 (nI (at_ + 1))) W (c :: Cd) := by
        refine ⟨?_, ?_, ?_, ?_⟩
        · rw [wr_at, pk_un (by decide), wr_at, pk_un (by decide), wr_ne (by decide)]; exact hR.1
        · rw [wr_at, pk_un (by decide), wr_at, pk_us, List.length_cons]
        · rw [wr_ne (by decide), wr_ne (by decide), wr_ne (by decide)]; exact hR.2.2.1
        · rw [wr_ne (by decide), wr_ne (by decide), wr_at]; exact hR.2.2.2.push
      refine E_V1v vX12_252_12 dX12_takesPart_111 (Nat.le_of_ble_eq_true rfl) (by decide) (sh_159 _) (s_X12_settle (r := 6) (by omega) R8 (by simp only [List.length_cons]; omega) (fun S111 r111 f111 => ?_))
      refine E_aload_n dX12_takesPart_114 rfl ?_
      have f5 : PFr S S111 := ((PFr.w2 (Or.inl rfl)).tr ((PFr.w (Or.inl rfl)).tr (PFr.w (Or.inr (Or.inl rfl))))).tr f111.p
      have k111 : MKr S111 b s e t := hk.sf (fun j h1 h2 => by rw [f111.1 j (by omega) (by omega), wr_at, pk_un (by omega), wr_at, pk_un (by omega), wr_ne (by decide)])
      have T111 := hT.pf f5
      refine E_V0v vX12_234_12 dX12_takesPart_115 (Nat.le_of_ble_eq_true rfl) (by decide) (sh_159 _) (s_X12_go T111 hb hn hen k111.1 (k111.en ht8 ht9) (fun S115 k115 f115 => ?_))
      refine E_ic (v := 1) dX12_takesPart_118 (by decide) ?_
      refine E_iret dX12_takesPart_119 rfl rfl ?_
      rw [hpa] at hq
      refine hq.2 c rfl S115 k115 (r111.g (f115.1 21 (by omega)) (f115.1 18 (by omega)) (f115.2 170 (by omega)) (f115.2 169 (by omega))) ?_ (f5.tr f115.p) ?_
      · rw [f115.1 19 (by omega), f111.1 19 (by omega) (by omega), wr_at, pk_us]
      · rw [f115.2 171 (by omega), f111.2 171 (by omega) (by omega), wr_ne (by decide), wr_ne (by decide), wr_ne (by decide)]
end Ex
