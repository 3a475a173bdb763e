/-! the reference's stack and codes -/
def arL (f : Nat → Int32) : List Int32 → Prop
  | [] => True
  | x :: r => f r.length = x ∧ arL f r
theorem arL.up {f : Nat → Int32} {k : Nat} {x : Int32} : ∀ {L : List Int32}, L.length ≤ k → arL f L → arL (upd f k x) L
  | [], _, _ => trivial
  | y :: r, hk, h => by
    simp only [List.length_cons] at hk
    exact ⟨by rw [pk_un (by omega)]; exact h.1, h.2.up (by omega)⟩
theorem arL.push {f : Nat → Int32} {x : Int32} {L : List Int32} (h : arL f L) : arL (upd f L.length x) (x :: L) := ⟨pk_us, h.up (Nat.le_refl _)⟩
def ncF (f : Nat → Int32) : Nat → Nat
  | 0 => 0
  | k + 1 => ncF f k + (if f k = -10 then 1 else 0)
theorem nc_nn {f : Nat → Int32} : ∀ W : List Int32, arL f W → ncF f W.length = nnF W
  | [], _ => rfl
  | w :: W, h => by
    simp only [List.length_cons]
    rw [ncF, nnF, nc_nn W h.2, h.1]
theorem nc_le {f : Nat → Int32} : ∀ k, ncF f k ≤ k
  | 0 => Nat.le_refl _
  | k + 1 => by
    rw [ncF]
    have := nc_le (f := f) k
    split <;> omega
def SFr (S S' : SS) : Prop := (∀ j, j ≠ 18 → j ≠ 21 → S' 159 j = S 159 j) ∧ ∀ k, k ≠ 159 → k ≠ 169 → S' k = S k
theorem SFr.rf {S : SS} : SFr S S := ⟨fun _ _ _ => rfl, fun _ _ _ => rfl⟩
theorem SFr.tr {S S' S'' : SS} (h : SFr S S') (h' : SFr S' S'') : SFr S S'' := ⟨fun j a b => (h'.1 j a b).trans (h.1 j a b), fun k a b => (h'.2 k a b).trans (h.2 k a b)⟩
/-- stack and codes of the reference -/
def RPS (S : SS) (W C : List Int32) : Prop := S 159 21 = nI W.length ∧ S 159 18 = nI C.length ∧ arL (S 170) W ∧ arL (S 169) C
/-- a sign -/
abbrev isSg (t : Int32) : Prop := ¬ t = 258 ∧ ¬ t = 259 ∧ ¬ isWd t
theorem rtk_sg {s e : Nat} {t : Int32} (h : isSg t) : rtk s e t = 3 := by
  rw [rtk, if_neg h.1, if_neg (fun z => h.2.2 (Or.inl z)), if_neg (fun z => h.2.2 (Or.inr z)), if_neg h.2.1]
theorem rtk_no {s e : Nat} {t : Int32} (h : ¬ isSg t) : ¬ rtk s e t = 3 := by
  unfold rtk
  by_cases h1 : t = 258
  · rw [if_pos h1]; decide
  · rw [if_neg h1]
    by_cases h2 : t = 256
    · rw [if_pos h2]; decide
    · rw [if_neg h2]
      by_cases h3 : t = 257
      · rw [if_pos h3]
        split <;> decide
      · rw [if_neg h3]
        by_cases h4 : t = 259
        · rw [if_pos h4]; decide
        · exact absurd ⟨h1, h4, fun z => z.elim h2 h3⟩ h
theorem sg_no {t : Int32} (h : ¬ isSg t) : sgF t = 0 := by
  by_cases h1 : t = 258
  · rw [h1]; decide +kernel
  · by_cases h4 : t = 259
    · rw [h4]; decide +kernel
    · by_cases h2 : t = 256
      · rw [h2]; decide +kernel
      · by_cases h3 : t = 257
        · rw [h3]; decide +kernel
        · exact absurd ⟨h1, h4, fun z => z.elim h2 h3⟩ h
section Pr
variable {Θ : Th} {d : Nat} {S : SS} {b : Nat → Int32} {n : Nat}
theorem s_X12_rank {Q : Int32 → HP → Prop} {w : Int32} (hq : Q (nI (rkF w)) (lay Θ S)) : C Θ d 0 0 yX12_rank cX12_rank 1 (some .int) [.int w] 183 (lay Θ S) (Qi Q) := by
  refine C_of rfl rfl (Nat.le_of_ble_eq_true rfl) ?_
  refine E_iload_n dX12_rank_0 rfl ?_
  refine E_ic (v := (-1)) dX12_rank_1 (by decide) ?_
  refine E_icmp_ne dX12_rank_2 (fun c2 => ?_) (fun c2 => ?_)
  · refine E_iload_n dX12_rank_9 rfl ?_
    refine E_bipush (v := (-2)) dX12_rank_10 (by decide) ?_
    refine E_icmp_ne dX12_rank_12 (fun c12 => ?_) (fun c12 => ?_)
    · refine E_iload_n dX12_rank_19 rfl ?_
      refine E_bipush (v := (-5)) dX12_rank_20 (by decide) ?_
      refine E_icmp_lt dX12_rank_22 (fun c22 => ?_) (fun c22 => ?_)
      · refine E_iload_n dX12_rank_29 rfl ?_
        refine E_bipush (v := (-7)) dX12_rank_30 (by decide) ?_
        refine E_icmp_lt dX12_rank_32 (fun c32 => ?_) (fun c32 => ?_)
        · refine E_iload_n dX12_rank_39 rfl ?_
          refine E_bipush (v := (-9)) dX12_rank_40 (by decide) ?_
          refine E_icmp_lt dX12_rank_42 (fun c42 => ?_) (fun c42 => ?_)
          · refine E_bipush (v := 6) dX12_rank_49 (by decide) ?_
            refine E_iret dX12_rank_51 rfl rfl ?_
            rw [rkF, if_neg c2, if_neg c12, if_neg (i_le c22), if_neg (i_le c32), if_neg (i_le c42)] at hq
            exact hq
          · refine E_ic (v := 5) dX12_rank_45 (by decide) ?_
            refine E_goto dX12_rank_46 ?_
            refine E_iret dX12_rank_51 rfl rfl ?_
            rw [rkF, if_neg c2, if_neg c12, if_neg (i_le c22), if_neg (i_le c32), if_pos (i_nlt c42)] at hq
            exact hq
        · refine E_ic (v := 4) dX12_rank_35 (by decide) ?_
          refine E_goto dX12_rank_36 ?_
          refine E_iret dX12_rank_51 rfl rfl ?_
          rw [rkF, if_neg c2, if_neg c12, if_neg (i_le c22), if_pos (i_nlt c32)] at hq
          exact hq
      · refine E_ic (v := 3) dX12_rank_25 (by decide) ?_
        refine E_goto dX12_rank_26 ?_
        refine E_iret dX12_rank_51 rfl rfl ?_
        rw [rkF, if_neg c2, if_neg c12, if_pos (i_nlt c22)] at hq
        exact hq
    · refine E_ic (v := 2) dX12_rank_15 (by decide) ?_
      refine E_goto dX12_rank_16 ?_
      refine E_iret dX12_rank_51 rfl rfl ?_
      rw [rkF, if_neg c2, if_pos c12] at hq
      exact hq
  · refine E_ic (v := 1) dX12_rank_5 (by decide) ?_
    refine E_goto dX12_rank_6 ?_
    refine E_iret dX12_rank_51 rfl rfl ?_
    rw [rkF, if_pos c2] at hq
    exact hq
theorem rk_6 (w : Int32) : rkF w ≤ 6 := by
  unfold rkF
  split <;> (try omega)
  split <;> (try omega)
  split <;> (try omega)
  split <;> (try omega)
  split <;> omega
theorem l_X12_settle {Q : HP → Prop} {r : Nat} (hr : r ≤ 6) : ∀ (W C : List Int32) (S : SS), RPS S W C → W.length + C.length ≤ 96 → (∀ S', RPS S' (stl r W C).1 (stl r W C).2 → SFr S S' → Q (lay Θ S')) → E Θ (d + 1) 0 0 yX12_settle cX12_settle 2 none 0 0 183 (lay Θ S) 0 [(1, .int (nI r)), (0, .ref (tb Θ + 159))] [] (Qv Q) := by
  intro W
  induction W with
  | nil =>
    intro C S hR h96 hq
    refine E_aload_n dX12_settle_0 rfl ?_
    refine L_get fX12_237 dX12_settle_1 (by decide) sh_159 rfl ?_
    rw [hR.1]
    refine E_if_le dX12_settle_4 (fun _ => ?_) (fun c => absurd (by decide) c)
    refine E_vret dX12_settle_82 rfl rfl ?_
    exact hq S hR SFr.rf
  | cons w W ih =>
    intro C S hR h96 hq
    simp only [List.length_cons] at h96
    have hrk := rk_6 w
    refine E_aload_n dX12_settle_0 rfl ?_
    refine L_get fX12_237 dX12_settle_1 (by decide) sh_159 rfl ?_
    rw [hR.1]
    refine E_if_le dX12_settle_4 (fun c => absurd c (nI_nle (by simp only [List.length_cons]; omega) (by simp only [List.length_cons]; omega))) (fun _ => ?_)
    refine E_aload_n dX12_settle_7 rfl ?_
    refine L_get fX12_42 dX12_settle_8 (by decide) sh_159 rfl ?_
    refine E_aload_n dX12_settle_11 rfl ?_
    refine L_get fX12_237 dX12_settle_12 (by decide) sh_159 rfl ?_
    rw [hR.1, List.length_cons]
    refine E_ic (v := 1) dX12_settle_15 (by decide) ?_
    refine E_isub dX12_settle_16 ?_
    refine L_iald (j := W.length) dX12_settle_17 (by decide) sh_170 (nI_pred _) (by omega) (by decide) ?_
    rw [hR.2.2.1.1]
    refine E_bipush (v := (-11)) dX12_settle_18 (by decide) ?_
    refine E_icmp_eq dX12_settle_20 (fun c20 => ?_) (fun c20 => ?_)
    · refine E_vret dX12_settle_82 rfl rfl ?_
      rw [stl, if_pos (Or.inl c20)] at hq
      exact hq S hR SFr.rf
    · refine E_aload_n dX12_settle_23 rfl ?_
      refine L_get fX12_42 dX12_settle_24 (by decide) sh_159 rfl ?_
      refine E_aload_n dX12_settle_27 rfl ?_
      refine L_get fX12_237 dX12_settle_28 (by decide) sh_159 rfl ?_
      rw [hR.1, List.length_cons]
      refine E_ic (v := 1) dX12_settle_31 (by decide) ?_
      refine E_isub dX12_settle_32 ?_
      refine L_iald (j := W.length) dX12_settle_33 (by decide) sh_170 (nI_pred _) (by omega) (by decide) ?_
      rw [hR.2.2.1.1]
      refine E_S1i sX12_240 dX12_settle_34 (Nat.le_of_ble_eq_true rfl) (s_X12_rank ?_)
      refine E_iload_n dX12_settle_37 rfl ?_
      refine E_icmp_lt dX12_settle_38 (fun c38 => ?_) (fun c38 => ?_)
      · refine E_vret dX12_settle_82 rfl rfl ?_
        rw [stl, if_pos (Or.inr ((nI_ltI (by omega) (by omega)).mp c38))] at hq
        exact hq S hR SFr.rf
      · refine E_aload_n dX12_settle_41 rfl ?_
        refine E_dup dX12_settle_42 rfl ?_
        refine L_get fX12_237 dX12_settle_43 (by decide) sh_159 rfl ?_
        rw [hR.1, List.length_cons]
        refine E_ic (v := 1) dX12_settle_46 (by decide) ?_
        refine E_isub dX12_settle_47 ?_
        rw [nI_pred]
        refine L_puti fX12_237 dX12_settle_48 (by decide) sh_159 (Nat.le_of_ble_eq_true rfl) rfl ?_
        refine E_aload_n dX12_settle_51 rfl ?_
        refine L_get fX12_39 dX12_settle_52 (by decide) sh_159 rfl ?_
        refine E_aload_n dX12_settle_55 rfl ?_
        refine L_get fX12_243 dX12_settle_56 (by decide) sh_159 rfl ?_
        rw [wr_at, pk_un (by decide), hR.2.1]
        refine E_aload_n dX12_settle_59 rfl ?_
        refine L_get fX12_42 dX12_settle_60 (by decide) sh_159 rfl ?_
        refine E_aload_n dX12_settle_63 rfl ?_
        refine L_get fX12_237 dX12_settle_64 (by decide) sh_159 rfl ?_
        rw [wr_at, pk_us]
        refine L_iald (j := W.length) dX12_settle_67 (by decide) sh_170 rfl (by omega) (by decide) ?_
        rw [wr_ne (by decide), hR.2.2.1.1]
        refine L_iast (j := C.length) dX12_settle_68 (by decide) sh_169 rfl (by omega) (by decide) ?_
        refine E_aload_n dX12_settle_69 rfl ?_
        refine E_dup dX12_settle_70 rfl ?_
        refine L_get fX12_243 dX12_settle_71 (by decide) sh_159 rfl ?_
        rw [wr_ne (by decide), wr_at, pk_un (by decide), hR.2.1]
        refine E_ic (v := 1) dX12_settle_74 (by decide) ?_
        refine E_iadd dX12_settle_75 ?_
        rw [nI_1]
        refine L_puti fX12_243 dX12_settle_76 (by decide) sh_159 (Nat.le_of_ble_eq_true rfl) rfl ?_
        refine E_goto dX12_settle_79 ?_
        have hst : ¬ (w = -11 ∨ rkF w < r) := fun z => z.elim c20 (fun y => c38 (nI_lt y (by omega)))
        rw [stl, if_neg hst] at hq
        refine ih (w :: C) _ ⟨?_, ?_, ?_, ?_⟩ (by simp only [List.length_cons]; omega) (fun S9 a9 b9 => hq S9 a9 (SFr.tr ⟨fun j h1 h2 => ?_, fun k h1 h2 => ?_⟩ b9))
        · rw [wr_at, pk_un (by decide), wr_ne (by decide), wr_at, pk_us]
        · rw [wr_at, pk_us, List.length_cons]
        · rw [wr_ne (by decide), wr_ne (by decide), wr_ne (by decide)]; exact hR.2.2.1.2
        · rw [wr_ne (by decide), wr_at, wr_ne (by decide)]; exact hR.2.2.2.push
        · rw [wr_at, pk_un h1, wr_ne (by decide), wr_at, pk_un h2]
        · rw [wr_ne h1, wr_ne h2, wr_ne h1]
theorem s_X12_settle {Q : HP → Prop} {r : Nat} (hr : r ≤ 6) {W Cd : List Int32} (hR : RPS S W Cd) (h96 : W.length + Cd.length ≤ 96) (hq : ∀ S', RPS S' (stl r W Cd).1 (stl r W Cd).2 → SFr S S' → Q (lay Θ S')) : C Θ (d + 1) 0 0 yX12_settle cX12_settle 2 none [.ref (tb Θ + 159), .int (nI r)] 183 (lay Θ S) (Qv Q) := by
  refine C_of rfl rfl (Nat.le_of_ble_eq_true rfl) ?_
  exact E.loc (by exact ⟨rfl, rfl, trivial⟩) (l_X12_settle hr W Cd S hR h96 hq)
theorem l_X12_notsOpen {Q : Int32 → HP → Prop} {W : List Int32} (hh : S 159 21 = nI W.length) (hW : arL (S 170) W) (h96 : W.length ≤ 96) (hq : Q (nI (nnF W)) (lay Θ S)) : ∀ (f : Nat) (x1 x2 : Int32) (k : Nat), x1 = nI (ncF (S 170) k) → x2 = nI k → k + f = W.length → E Θ d 0 0 yX12_notsOpen cX12_notsOpen 3 (some .int) 0 0 183 (lay Θ S) 4 [(2, .int x2), (1, .int x1), (0, .ref (tb Θ + 159))] [] (Qi Q) := by
  intro f
  induction f with
  | zero =>
    intro x1 x2 k hx1 hx2 hk
    refine E_iload_n dX12_notsOpen_4 rfl ?_
    refine E_aload_n dX12_notsOpen_5 rfl ?_
    refine L_get fX12_237 dX12_notsOpen_6 (by decide) sh_159 rfl ?_
    rw [hh]
    refine E_icmp_ge dX12_notsOpen_9 (fun _ => ?_) (fun c => absurd (by rw [hx2]; exact nI_le (by omega) (by omega)) c)
    refine E_iload_n dX12_notsOpen_37 rfl ?_
    refine E_iret dX12_notsOpen_38 rfl rfl ?_
    rw [hx1, show k = W.length by omega, nc_nn W hW]
    exact hq
  | succ f ih =>
    intro x1 x2 k hx1 hx2 hk
    refine E_iload_n dX12_notsOpen_4 rfl ?_
    refine E_aload_n dX12_notsOpen_5 rfl ?_
    refine L_get fX12_237 dX12_notsOpen_6 (by decide) sh_159 rfl ?_
    rw [hh]
    refine E_icmp_ge dX12_notsOpen_9 (fun c => absurd c (ge_no (by omega) (by omega) hx2 (by omega))) (fun _ => ?_)
    refine E_iload_n dX12_notsOpen_12 rfl ?_
    refine E_aload_n dX12_notsOpen_13 rfl ?_
    refine L_get fX12_42 dX12_notsOpen_14 (by decide) sh_159 rfl ?_
    refine E_iload_n dX12_notsOpen_17 rfl ?_
    refine L_iald (j := k) dX12_notsOpen_18 (by decide) sh_170 hx2 (by omega) (by decide) ?_
    refine E_bipush (v := (-10)) dX12_notsOpen_19 (by decide) ?_
    refine E_icmp_ne dX12_notsOpen_21 (fun c21 => ?_) (fun c21 => ?_)
    · refine E_ic (v := 0) dX12_notsOpen_28 (by decide) ?_
      refine E_iadd dX12_notsOpen_29 ?_
      refine E_istore_n dX12_notsOpen_30 (by decide) ?_
      refine E_iinc (v := 1) dX12_notsOpen_31 rfl (by decide) (by decide) ?_
      refine E_goto dX12_notsOpen_34 ?_
      rw [hx1, ad0]
      exact E.loc (by exact ⟨rfl, rfl, rfl, trivial⟩) (ih _ _ (k + 1) (by rw [ncF, if_neg c21, Nat.add_zero]) (by rw [hx2, nI_1]) (by omega))
    · refine E_ic (v := 1) dX12_notsOpen_24 (by decide) ?_
      refine E_goto dX12_notsOpen_25 ?_
      refine E_iadd dX12_notsOpen_29 ?_
      refine E_istore_n dX12_notsOpen_30 (by decide) ?_
      refine E_iinc (v := 1) dX12_notsOpen_31 rfl (by decide) (by decide) ?_
      refine E_goto dX12_notsOpen_34 ?_
      rw [hx1, nI_1]
      exact E.loc (by exact ⟨rfl, rfl, rfl, trivial⟩) (ih _ _ (k + 1) (by rw [ncF, if_pos c21]) (by rw [hx2, nI_1]) (by omega))
theorem s_X12_notsOpen {Q : Int32 → HP → Prop} {W : List Int32} (hh : S 159 21 = nI W.length) (hW : arL (S 170) W) (h96 : W.length ≤ 96) (hq : Q (nI (nnF W)) (lay Θ S)) : C Θ d 0 0 yX12_notsOpen cX12_notsOpen 3 (some .int) [.ref (tb Θ + 159)] 183 (lay Θ S) (Qi Q) := by
  refine C_of rfl rfl (Nat.le_of_ble_eq_true rfl) ?_
  refine E_ic (v := 0) dX12_notsOpen_0 (by decide) ?_
  refine E_istore_n dX12_notsOpen_1 (by decide) ?_
  refine E_ic (v := 0) dX12_notsOpen_2 (by decide) ?_
  refine E_istore_n dX12_notsOpen_3 (by decide) ?_
  exact E.loc (by exact ⟨rfl, rfl, rfl, trivial⟩) (l_X12_notsOpen hh hW h96 hq W.length 0 0 0 rfl rfl (by omega))
theorem s_X12_signHere {Q : Int32 → HP → Prop} {s e : Nat} {t : Int32} (hk : MKr S b s e t) (ht : TkO b n s e t) (hq : Q (sgF t) (lay Θ S)) : C Θ d 0 0 yX12_signHere cX12_signHere 1 (some .int) [.ref (tb Θ + 159)] 183 (lay Θ S) (Qi Q) := by
  refine C_of rfl rfl (Nat.le_of_ble_eq_true rfl) ?_
  by_cases hs : isSg t
  · refine E_aload_n dX12_signHere_0 rfl ?_
    refine L_get fX12_219 dX12_signHere_1 (by decide) sh_159 rfl ?_
    rw [hk.2.2.1, rtk_sg hs]
    refine E_ic (v := 3) dX12_signHere_4 (by decide) ?_
    refine E_icmp_eq dX12_signHere_5 (fun _ => ?_) (fun c => absurd rfl c)
    refine E_aload_n dX12_signHere_10 rfl ?_
    refine L_get fX12_225 dX12_signHere_11 (by decide) sh_159 rfl ?_
    rw [hk.2.2.2.2.2.1 hs.1 hs.2.1 hs.2.2, ← (ht.2.2.2.2.2.2 hs.1 hs.2.1 hs.2.2).1]
    refine E_top (fun x14 hx14 => ?_)
    by_cases k14_38 : x14 = 38
    · refine E_lsw (off := 84) (tgt := 98) dX12_signHere_14 (by decide) (by rw [k14_38]; decide) (by decide) ?_
      refine E_bipush (v := (-2)) dX12_signHere_98 (by decide) ?_
      refine E_iret dX12_signHere_100 rfl rfl ?_
      exact q_eq hq (by rw [← hx14, k14_38]; decide)
    by_cases k14_42 : x14 = 42
    · refine E_lsw (off := 102) (tgt := 116) dX12_signHere_14 (by decide) (by rw [k14_42]; decide) (by decide) ?_
      refine E_bipush (v := (-8)) dX12_signHere_116 (by decide) ?_
      refine E_iret dX12_signHere_118 rfl rfl ?_
      exact q_eq hq (by rw [← hx14, k14_42]; decide)
    by_cases k14_43 : x14 = 43
    · refine E_lsw (off := 96) (tgt := 110) dX12_signHere_14 (by decide) (by rw [k14_43]; decide) (by decide) ?_
      refine E_bipush (v := (-6)) dX12_signHere_110 (by decide) ?_
      refine E_iret dX12_signHere_112 rfl rfl ?_
      exact q_eq hq (by rw [← hx14, k14_43]; decide)
    by_cases k14_45 : x14 = 45
    · refine E_lsw (off := 99) (tgt := 113) dX12_signHere_14 (by decide) (by rw [k14_45]; decide) (by decide) ?_
      refine E_bipush (v := (-7)) dX12_signHere_113 (by decide) ?_
      refine E_iret dX12_signHere_115 rfl rfl ?_
      exact q_eq hq (by rw [← hx14, k14_45]; decide)
    by_cases k14_47 : x14 = 47
    · refine E_lsw (off := 105) (tgt := 119) dX12_signHere_14 (by decide) (by rw [k14_47]; decide) (by decide) ?_
      refine E_bipush (v := (-9)) dX12_signHere_119 (by decide) ?_
      refine E_iret dX12_signHere_121 rfl rfl ?_
      exact q_eq hq (by rw [← hx14, k14_47]; decide)
    by_cases k14_60 : x14 = 60
    · refine E_lsw (off := 87) (tgt := 101) dX12_signHere_14 (by decide) (by rw [k14_60]; decide) (by decide) ?_
      refine E_bipush (v := (-3)) dX12_signHere_101 (by decide) ?_
      refine E_iret dX12_signHere_103 rfl rfl ?_
      exact q_eq hq (by rw [← hx14, k14_60]; decide)
    by_cases k14_61 : x14 = 61
    · refine E_lsw (off := 90) (tgt := 104) dX12_signHere_14 (by decide) (by rw [k14_61]; decide) (by decide) ?_
      refine E_bipush (v := (-4)) dX12_signHere_104 (by decide) ?_
      refine E_iret dX12_signHere_106 rfl rfl ?_
      exact q_eq hq (by rw [← hx14, k14_61]; decide)
    by_cases k14_62 : x14 = 62
    · refine E_lsw (off := 93) (tgt := 107) dX12_signHere_14 (by decide) (by rw [k14_62]; decide) (by decide) ?_
      refine E_bipush (v := (-5)) dX12_signHere_107 (by decide) ?_
      refine E_iret dX12_signHere_109 rfl rfl ?_
      exact q_eq hq (by rw [← hx14, k14_62]; decide)
    by_cases k14_124 : x14 = 124
    · refine E_lsw (off := 82) (tgt := 96) dX12_signHere_14 (by decide) (by rw [k14_124]; decide) (by decide) ?_
      refine E_ic (v := (-1)) dX12_signHere_96 (by decide) ?_
      refine E_iret dX12_signHere_97 rfl rfl ?_
      exact q_eq hq (by rw [← hx14, k14_124]; decide)
    refine E_lsw (off := 108) (tgt := 122) dX12_signHere_14 (by decide) ((lv_osw (k := 38) k14_38 (by decide)).trans <| (lv_osw (k := 42) k14_42 (by decide)).trans <| (lv_osw (k := 43) k14_43 (by decide)).trans <| (lv_osw (k := 45) k14_45 (by decide)).trans <| (lv_osw (k := 47) k14_47 (by decide)).trans <| (lv_osw (k := 60) k14_60 (by decide)).trans <| (lv_osw (k := 61) k14_61 (by decide)).trans <| (lv_osw (k := 62) k14_62 (by decide)).trans <| (lv_osw (k := 124) k14_124 (by decide)).trans <| rfl) (by decide) ?_
    refine E_ic (v := 0) dX12_signHere_122 (by decide) ?_
    refine E_iret dX12_signHere_123 rfl rfl ?_
    refine q_eq hq ?_
    rw [sgF, if_neg (hx14 ▸ k14_124), if_neg (hx14 ▸ k14_38), if_neg (hx14 ▸ k14_60), if_neg (hx14 ▸ k14_61), if_neg (hx14 ▸ k14_62), if_neg (hx14 ▸ k14_43), if_neg (hx14 ▸ k14_45), if_neg (hx14 ▸ k14_42), if_neg (hx14 ▸ k14_47)]
  · refine E_aload_n dX12_signHere_0 rfl ?_
    refine L_get fX12_219 dX12_signHere_1 (by decide) sh_159 rfl ?_
    rw [hk.2.2.1]
    refine E_ic (v := 3) dX12_signHere_4 (by decide) ?_
    refine E_icmp_eq dX12_signHere_5 (fun c => absurd c (rtk_no hs)) (fun _ => ?_)
    refine E_ic (v := 0) dX12_signHere_8 (by decide) ?_
    refine E_iret dX12_signHere_9 rfl rfl ?_
    rw [sg_no hs] at hq
    exact hq
theorem s_X12_nameOf {Q : Int32 → HP → Prop} {key : Nat} (hkey : S 159 14 = nI key) (h3 : key < 3) {x : Int32} (hq : Q (nmR key x) (lay Θ S)) : C Θ d 0 0 yX12_nameOf cX12_nameOf 2 (some .int) [.ref (tb Θ + 159), .int x] 183 (lay Θ S) (Qi Q) := by
  refine C_of rfl rfl (Nat.le_of_ble_eq_true rfl) ?_
  refine E_aload_n dX12_nameOf_0 rfl ?_
  refine L_get fX12_231 dX12_nameOf_1 (by decide) sh_159 rfl ?_
  rw [hkey]
  refine E_top (fun x4 hx4 => ?_)
  by_cases k4_0 : x4 = 0
  · refine E_lsw (off := 28) (tgt := 32) dX12_nameOf_4 (by decide) (by rw [k4_0]; decide) (by decide) ?_
    refine E_iload_n dX12_nameOf_32 rfl ?_
    refine E_bipush (v := 100) dX12_nameOf_33 (by decide) ?_
    refine E_icmp_ne dX12_nameOf_35 (fun c35 => ?_) (fun c35 => ?_)
    · refine E_iload_n dX12_nameOf_42 rfl ?_
      refine E_bipush (v := 116) dX12_nameOf_43 (by decide) ?_
      refine E_icmp_ne dX12_nameOf_45 (fun c45 => ?_) (fun c45 => ?_)
      · refine E_iload_n dX12_nameOf_52 rfl ?_
        refine E_bipush (v := 110) dX12_nameOf_53 (by decide) ?_
        refine E_icmp_ne dX12_nameOf_55 (fun c55 => ?_) (fun c55 => ?_)
        · refine E_ic (v := (-1)) dX12_nameOf_62 (by decide) ?_
          refine E_iret dX12_nameOf_63 rfl rfl ?_
          have k0 : key = 0 := nI_inj (by omega) (by decide) (hx4.symm.trans k4_0)
          rw [nmR, if_pos k0, if_neg c35, if_neg c45, if_neg c55] at hq
          exact hq
        · refine E_ic (v := 2) dX12_nameOf_58 (by decide) ?_
          refine E_goto dX12_nameOf_59 ?_
          refine E_iret dX12_nameOf_63 rfl rfl ?_
          have k0 : key = 0 := nI_inj (by omega) (by decide) (hx4.symm.trans k4_0)
          rw [nmR, if_pos k0, if_neg c35, if_neg c45, if_pos c55] at hq
          exact hq
      · refine E_ic (v := 1) dX12_nameOf_48 (by decide) ?_
        refine E_goto dX12_nameOf_49 ?_
        refine E_iret dX12_nameOf_63 rfl rfl ?_
        have k0 : key = 0 := nI_inj (by omega) (by decide) (hx4.symm.trans k4_0)
        rw [nmR, if_pos k0, if_neg c35, if_pos c45] at hq
        exact hq
    · refine E_ic (v := 0) dX12_nameOf_38 (by decide) ?_
      refine E_goto dX12_nameOf_39 ?_
      refine E_iret dX12_nameOf_63 rfl rfl ?_
      have k0 : key = 0 := nI_inj (by omega) (by decide) (hx4.symm.trans k4_0)
      rw [nmR, if_pos k0, if_pos c35] at hq
      exact hq
  by_cases k4_1 : x4 = 1
  · refine E_lsw (off := 60) (tgt := 64) dX12_nameOf_4 (by decide) (by rw [k4_1]; decide) (by decide) ?_
    refine E_iload_n dX12_nameOf_64 rfl ?_
    refine E_bipush (v := 99) dX12_nameOf_65 (by decide) ?_
    refine E_icmp_ne dX12_nameOf_67 (fun c67 => ?_) (fun c67 => ?_)
    · refine E_iload_n dX12_nameOf_74 rfl ?_
      refine E_bipush (v := 115) dX12_nameOf_75 (by decide) ?_
      refine E_icmp_ne dX12_nameOf_77 (fun c77 => ?_) (fun c77 => ?_)
      · refine E_ic (v := (-1)) dX12_nameOf_84 (by decide) ?_
        refine E_iret dX12_nameOf_85 rfl rfl ?_
        have k1 : key = 1 := nI_inj (by omega) (by decide) (hx4.symm.trans k4_1)
        have k0 : ¬ key = 0 := by omega
        rw [nmR, if_neg k0, if_pos k1, if_neg c67, if_neg c77] at hq
        exact hq
      · refine E_ic (v := 1) dX12_nameOf_80 (by decide) ?_
        refine E_goto dX12_nameOf_81 ?_
        refine E_iret dX12_nameOf_85 rfl rfl ?_
        have k1 : key = 1 := nI_inj (by omega) (by decide) (hx4.symm.trans k4_1)
        have k0 : ¬ key = 0 := by omega
        rw [nmR, if_neg k0, if_pos k1, if_neg c67, if_pos c77] at hq
        exact hq
    · refine E_ic (v := 0) dX12_nameOf_70 (by decide) ?_
      refine E_goto dX12_nameOf_71 ?_
      refine E_iret dX12_nameOf_85 rfl rfl ?_
      have k1 : key = 1 := nI_inj (by omega) (by decide) (hx4.symm.trans k4_1)
      have k0 : ¬ key = 0 := by omega
      rw [nmR, if_neg k0, if_pos k1, if_pos c67] at hq
      exact hq
  refine E_lsw (off := 82) (tgt := 86) dX12_nameOf_4 (by decide) ((lv_osw (k := 0) k4_0 (by decide)).trans <| (lv_osw (k := 1) k4_1 (by decide)).trans <| rfl) (by decide) ?_
  refine E_iload_n dX12_nameOf_86 rfl ?_
  refine E_bipush (v := 116) dX12_nameOf_87 (by decide) ?_
  refine E_icmp_ne dX12_nameOf_89 (fun c89 => ?_) (fun c89 => ?_)
  · refine E_iload_n dX12_nameOf_96 rfl ?_
    refine E_bipush (v := 98) dX12_nameOf_97 (by decide) ?_
    refine E_icmp_ne dX12_nameOf_99 (fun c99 => ?_) (fun c99 => ?_)
    · refine E_ic (v := (-1)) dX12_nameOf_106 (by decide) ?_
      refine E_iret dX12_nameOf_107 rfl rfl ?_
      have k0 : ¬ key = 0 := fun z => k4_0 (by rw [hx4, z]; rfl)
      have k1 : ¬ key = 1 := fun z => k4_1 (by rw [hx4, z]; rfl)
      rw [nmR, if_neg k0, if_neg k1, if_neg c89, if_neg c99] at hq
      exact hq
    · refine E_ic (v := 1) dX12_nameOf_102 (by decide) ?_
      refine E_goto dX12_nameOf_103 ?_
      refine E_iret dX12_nameOf_107 rfl rfl ?_
      have k0 : ¬ key = 0 := fun z => k4_0 (by rw [hx4, z]; rfl)
      have k1 : ¬ key = 1 := fun z => k4_1 (by rw [hx4, z]; rfl)
      rw [nmR, if_neg k0, if_neg k1, if_neg c89, if_pos c99] at hq
      exact hq
  · refine E_ic (v := 0) dX12_nameOf_92 (by decide) ?_
    refine E_goto dX12_nameOf_93 ?_
    refine E_iret dX12_nameOf_107 rfl rfl ?_
    have k0 : ¬ key = 0 := fun z => k4_0 (by rw [hx4, z]; rfl)
    have k1 : ¬ key = 1 := fun z => k4_1 (by rw [hx4, z]; rfl)
    rw [nmR, if_neg k0, if_neg k1, if_pos c89] at hq
    exact hq
end Pr
