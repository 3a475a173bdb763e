/-! text, in the class -/
theorem WRep.same {S S' : SS} {w : Nat} {v : WV} (hR : WRep S w v) (hm : mN v ≤ 9) (h : ∀ k, w ≤ k → k < w + 22 → S' k = S k) : WRep S' w v := by
  refine ⟨fun q hq => ?_, fun j hj => ?_, fun c hc => ?_, fun p hp => ?_⟩
  · rw [h w (by omega) (by omega)]; exact hR.1 q hq
  · rw [h (w + 2) (by omega) (by omega)]; exact hR.2.1 j hj
  · rw [h (w + 3) (by omega) (by omega)]; exact hR.2.2.1 c hc
  · obtain ⟨a1, a2, a3, a4⟩ := hR.2.2.2 p hp
    refine ⟨?_, ?_, ?_, fun j hj => ?_⟩
    · rw [h _ (by omega) (by omega)]; exact a1
    · rw [h _ (by omega) (by omega)]; exact a2
    · rw [h _ (by omega) (by omega)]; exact a3
    · rw [h _ (by omega) (by omega)]; exact a4 j hj
/-- what text may change beside the world -/
def XTF (t : Nat) (S S' : SS) : Prop := S' (86 + 3 * t) 0 = S (86 + 3 * t) 0 ∧ ∀ k, k ≠ 3 → k ≠ 86 + 3 * t → k ≠ 86 + 3 * t + 1 → S' k = S k
def XTG (t : Nat) (S S' : SS) : Prop := S' (86 + 3 * t) 0 = S (86 + 3 * t) 0 ∧ ∀ k, k ≠ 3 → k ≠ 20 → k ≠ 23 → k ≠ 86 + 3 * t → k ≠ 86 + 3 * t + 1 → S' k = S k
section Xt
variable {Θ : Th} {d : Nat} {S : SS} {b : Nat → Int32} {n : Nat} {v : WV} {adK adV : Nat → Nat} {fv : Value}
theorem t65_X11 {Q : Int32 → HP → Prop} {t key : Nat} (ht : t < 14) (h3 : key < 3) (hk : S (86 + 3 * t) 1 = nI key) (h13 : S 20 13 = nI t) (h0 : S (86 + 3 * t) 0 = nI t) (hq : Q (nI t) (lay Θ (wr (wr S 23 key (nI t)) 20 13 (nI (t + 1))))) : E Θ (d + 124) 0 0 yX11_text cX11_text 3 (some .int) 0 0 183 (lay Θ S) 65 [(1, .ref (tb Θ + (86 + 3 * t))), (0, .ref (tb Θ + 0))] [] (Qi Q) := by
  have er : tref Θ (nI t) = some (tb Θ + (86 + 3 * t)) := by rw [tref, if_neg (show ¬ nI t < 0 from i_lt (nI_le (a := 0) (Nat.zero_le t) (by omega))), nI_clamp (by omega)]
  refine E_aload_n dX11_text_65 rfl ?_
  refine L_get fX11_83 dX11_text_66 (by decide) sh_0 rfl ?_
  refine L_get fX11_249 dX11_text_69 (by have := (isW20).lt; omega) (sh_W isW20) rfl ?_
  refine E_aload_n dX11_text_72 rfl ?_
  refine L_get fX11_271 dX11_text_73 (by have := ((isT_mk (t := t) (by omega))).lt; omega) (sh_T (isT_mk (t := t) (by omega))) rfl ?_
  rw [hk]
  refine E_aload_n dX11_text_76 rfl ?_
  refine L_aast (j := key) (x0 := nI t) dX11_text_77 (by decide) (sh_Wl isW20) rfl rfl (by omega) (by decide) (by omega) (sh_T (isT_mk (t := t) (by omega))) rfl (Or.inl rfl) (tr_set er) ?_
  refine E_aload_n dX11_text_78 rfl ?_
  refine L_get fX11_83 dX11_text_79 (by decide) sh_0 rfl ?_
  refine E_dup dX11_text_82 rfl ?_
  refine L_get fX11_261 dX11_text_83 (by have := (isW20).lt; omega) (sh_W isW20) rfl ?_
  rw [wr_ne (by decide), h13]
  refine E_ic (v := 1) dX11_text_86 (by decide) ?_
  refine E_iadd dX11_text_87 ?_
  rw [nI_1]
  refine L_puti fX11_261 dX11_text_88 (by have := (isW20).lt; omega) (sh_W isW20) (Nat.le_of_ble_eq_true rfl) rfl ?_
  refine E_aload_n dX11_text_91 rfl ?_
  refine L_get fX11_274 dX11_text_92 (by have := ((isT_mk (t := t) (by omega))).lt; omega) (sh_T (isT_mk (t := t) (by omega))) rfl ?_
  rw [wr_ne (by omega), wr_ne (by omega), h0]
  refine E_iret dX11_text_95 rfl rfl ?_
  exact hq
theorem s_X11_text {Q : Int32 → HP → Prop} (hX : HasS Θ adK adV fv) (hR : WRep S 20 v) (hTr : TRep S v) (hm9 : mN v ≤ 9) {t : Nat} (h14 : v 14 = nI t) (ht14 : t ≤ 14) (h0 : S (86 + 3 * t) 0 = nI t) (ok : ∀ t', t' < t → lnF v t' ≤ 96) (hT : CT S b n) (hb : byOk b n) (hn : n ≤ 96) (hq0 : ∀ key s, TxR b n key (none, s) → ∀ S', XTF t S S' → S' 3 1 = 0 → Q (-100 - nI s) (lay Θ S')) (hq1 : ∀ key L a, TxR b n key (some (L, a), 0) → t = 14 → ∀ S', XTF t S S' → S' 3 1 = 0 → Q (-1000000003) (lay Θ S')) (hq2 : ∀ key L a, TxR b n key (some (L, a), 0) → t < 14 → ∀ S', WRep S' 20 (tV v t key L a) → TRep S' (tV v t key L a) → XTG t S S' → S' 3 1 = 0 → Q (nI t) (lay Θ S')) : C Θ (d + 124) 0 0 yX11_text cX11_text 3 (some .int) [.ref (tb Θ + 0)] 183 (lay Θ S) (Qi Q) := by
  refine C_of rfl rfl (Nat.le_of_ble_eq_true rfl) ?_
  refine E_aload_n dX11_text_0 rfl ?_
  refine L_get fX11_17 dX11_text_1 (by decide) sh_0 rfl ?_
  refine E_aload_n dX11_text_4 rfl ?_
  refine L_get fX11_83 dX11_text_5 (by decide) sh_0 rfl ?_
  refine W_get (j := 13) (i := 14) hR isW20 (by decide) fX11_261 dX11_text_8 ?_
  rw [h14]
  refine E_bipush (v := 14) dX11_text_11 (by decide) ?_
  refine E_mmin mX11_160 w_mins w_mi w_minc dX11_text_13 (Nat.le_of_ble_eq_true rfl) ?_
  rw [if_neg (show ¬ (14 : Int32) < nI t from fun z => absurd ((nI_ltI (a := 14) (by decide) (by omega)).mp z) (by omega))]
  refine L_aald (j := t) dX11_text_16 (by decide) sh_2 rfl rfl (by omega) (by decide) (if_pos (by omega)) ?_
  refine E_astore_n dX11_text_17 (by decide) ?_
  refine E_aload_n dX11_text_18 rfl ?_
  refine L_get fX11_24 dX11_text_19 (by decide) sh_0 rfl ?_
  refine E_aload_n dX11_text_22 rfl ?_
  refine E_V1i vX11_264_7 dX11_text_23 (Nat.le_of_ble_eq_true rfl) (by decide) (sh_3 _) (s_X7_takeText (τ := t) hX (by omega) hT hb hn (fun key L a hx S9 c9 k9 f9 => ?_) (fun key s hx S9 e9 f9 => ?_))
  · refine E_istore_n dX11_text_26 (by decide) ?_
    refine E_aload_n dX11_text_27 rfl ?_
    refine L_get fX11_24 dX11_text_28 (by decide) sh_0 rfl ?_
    refine E_ic (v := 0) dX11_text_31 (by decide) ?_
    refine L_puti fX11_255 dX11_text_32 (by decide) sh_3 (Nat.le_of_ble_eq_true rfl) rfl ?_
    have xf : XTF t S (wr S9 3 1 0) := ⟨by rw [wr_ne (by omega)]; exact f9.2.1 0 (by omega), fun k h1 h2 h3 => by rw [wr_ne h1]; exact f9.2.2 k h1 h2 h3⟩
    have hRb : WRep (wr S9 3 1 0) 20 v := hR.same hm9 (fun k h1 h2 => xf.2 k (by omega) (by omega) (by omega))
    refine E_iload_n dX11_text_35 rfl ?_
    refine E_if_ne dX11_text_36 (fun _ => ?_) (fun c => absurd c (by decide))
    refine E_aload_n dX11_text_50 rfl ?_
    refine L_get fX11_83 dX11_text_51 (by decide) sh_0 rfl ?_
    refine W_get (j := 13) (i := 14) hRb isW20 (by decide) fX11_261 dX11_text_54 ?_
    rw [h14]
    refine E_bipush (v := 14) dX11_text_57 (by decide) ?_
    refine E_icmp_lt dX11_text_59 (fun c59 => ?_) (fun c59 => ?_)
    · have ht : t < 14 := (nI_ltI (b := 14) (by omega) (by decide)).mp c59
      obtain ⟨fo, h3⟩ := hx.fin hb hn
      have h3 := h3 (by intro z; cases z)
      obtain ⟨d1, d2, d3, d4, d5, d6⟩ := fo L a rfl
      have hl : L.length ≤ 96 := by omega
      have kb : (wr S9 3 1 0) (86 + 3 * t) 1 = nI key := by rw [wr_ne (by omega)]; exact k9
      have cb : CPS (wr S9 3 1 0) t L a := by
        unfold CPS
        rw [wr_ne (by omega), wr_ne (by omega)]
        exact c9
      refine E.loc (by exact ⟨rfl, rfl, trivial⟩) (t65_X11 ht h3 kb ((hRb.1 (13, 14) (by decide)).trans h14) (xf.1.trans h0) ?_)
      refine hq2 key L a hx ht _ ?_ ?_ ⟨?_, fun k g1 g2 g3 g4 g5 => ?_⟩ ?_
      · refine WRep.text (S := wr S9 3 1 0) hRb ht h3 hl h14 hm9 (fun j hj => ?_) ?_ (fun c => ?_) (fun k hk => ?_)
        · rw [wr_at, pk_un hj, wr_ne (by decide)]
        · rw [wr_at, pk_us]
        · rw [wr_ne (by decide), wr_at]
          by_cases e : c = key
          · rw [e, pk_us, if_pos rfl]
          · rw [pk_un e, if_neg e]
        · rw [wr_ne (by omega), wr_ne (by omega)]
      · refine TRep.text hTr ok ht h3 hl h14 ?_ ?_ (fun t' h' => ⟨?_, ?_⟩)
        · refine ⟨?_, ?_, ?_⟩
          · rw [wr_ne (by omega), wr_ne (by omega)]; exact cb.1
          · rw [wr_ne (by omega), wr_ne (by omega)]; exact cb.2.1
          · rw [wr_ne (by omega), wr_ne (by omega)]; exact cb.2.2
        · rw [wr_ne (by omega), wr_ne (by omega)]; exact kb
        · rw [wr_ne (by omega), wr_ne (by omega)]; exact xf.2 _ (by omega) (by omega) (by omega)
        · rw [wr_ne (by omega), wr_ne (by omega)]; exact xf.2 _ (by omega) (by omega) (by omega)
      · rw [wr_ne (by omega), wr_ne (by omega)]; exact xf.1
      · rw [wr_ne g2, wr_ne g3]; exact xf.2 k g1 g4 g5
      · rw [wr_ne (by decide), wr_ne (by decide), wr_at, pk_us]
    · refine E_ldc dX11_text_62 kX11_110 ?_
      refine E_iret dX11_text_64 rfl rfl ?_
      have e14 : t = 14 := by
        have : ¬ t < 14 := fun z => c59 (nI_lt (b := 14) z (by decide))
        omega
      exact hq1 key L a hx e14 _ xf (by rw [wr_at, pk_us])
  · refine E_istore_n dX11_text_26 (by decide) ?_
    refine E_aload_n dX11_text_27 rfl ?_
    refine L_get fX11_24 dX11_text_28 (by decide) sh_0 rfl ?_
    refine E_ic (v := 0) dX11_text_31 (by decide) ?_
    refine L_puti fX11_255 dX11_text_32 (by decide) sh_3 (Nat.le_of_ble_eq_true rfl) rfl ?_
    have xf : XTF t S (wr S9 3 1 0) := ⟨by rw [wr_ne (by omega)]; exact f9.2.1 0 (by omega), fun k h1 h2 h3 => by rw [wr_ne h1]; exact f9.2.2 k h1 h2 h3⟩
    have hRb : WRep (wr S9 3 1 0) 20 v := hR.same hm9 (fun k h1 h2 => xf.2 k (by omega) (by omega) (by omega))
    refine E_iload_n dX11_text_35 rfl ?_
    refine E_if_ne dX11_text_36 (fun c => absurd rfl c) (fun _ => ?_)
    refine E_bipush (v := (-100)) dX11_text_39 (by decide) ?_
    refine E_aload_n dX11_text_41 rfl ?_
    refine L_get fX11_24 dX11_text_42 (by decide) sh_0 rfl ?_
    refine L_get fX11_268 dX11_text_45 (by decide) sh_3 rfl ?_
    rw [wr_at, pk_un (by decide), e9]
    refine E_isub dX11_text_48 ?_
    refine E_iret dX11_text_49 rfl rfl ?_
    exact hq0 key s hx _ xf (by rw [wr_at, pk_us])
end Xt
