/-! pairs, on both sides -/
def MP (S S' : SS) : Prop := ∀ k, k ≠ 160 → k ≠ 163 → k ≠ 164 → k ≠ 172 → k ≠ 173 → S' k = S k
theorem MP.rf {S : SS} : MP S S := fun _ _ _ _ _ _ => rfl
theorem MP.tr {S S' S'' : SS} (h : MP S S') (h' : MP S' S'') : MP S S'' := fun k a b c e f => (h' k a b c e f).trans (h k a b c e f)
theorem MH.mp {S S' : SS} (h : MH S S') : MP S S' := fun k a b _ c e => h k a b c e
/-- the class's cells for what is only thought alone are changed -/
def WG (S S' : SS) : Prop := ∀ k, (k < 64 ∨ 86 ≤ k) → (∀ t, t < 15 → k ≠ 86 + 3 * t + 2) → k ≠ 11 → k ≠ 12 → k ≠ 13 → S' k = S k
theorem WG.rf {S : SS} : WG S S := fun _ _ _ _ _ _ => rfl
theorem WG.tr {S S' S'' : SS} (h : WG S S') (h' : WG S' S'') : WG S S'' := fun k a b c e f => (h' k a b c e f).trans (h k a b c e f)
theorem WF.wg {S S' : SS} (h : WF 64 S S') : WG S S' := fun k a b _ _ _ => h k (by omega) b
theorem WG.w {S : SS} {k j : Nat} {x : Int32} (h : k = 11 ∨ k = 12 ∨ k = 13) : WG S (wr S k j x) := fun k' _ _ a b c => wr_ne (by omega)
theorem WRep.sm {S S' : SS} {w : Nat} {v : WV} (h : WRep S w v) (hm : mN v ≤ 9) (hf : ∀ k, w ≤ k → k < w + 22 → S' k = S k) : WRep S' w v := by
  obtain ⟨h1, h2, h3, h4⟩ := h
  refine ⟨fun q hq => by rw [hf w (by omega) (by omega)]; exact h1 q hq, fun j hj => by rw [hf (w + 2) (by omega) (by omega)]; exact h2 j hj, fun c hc => by rw [hf (w + 3) (by omega) (by omega)]; exact h3 c hc, fun p hp => ?_⟩
  obtain ⟨b1, b2, b3, b4⟩ := h4 p hp
  have e1 : S' (w + 4 + 2 * p) = S (w + 4 + 2 * p) := hf _ (by omega) (by omega)
  have e2 : S' (w + 4 + 2 * p + 1) = S (w + 4 + 2 * p + 1) := hf _ (by omega) (by omega)
  exact ⟨by rw [e1]; exact b1, by rw [e1]; exact b2, by rw [e1]; exact b3, fun j hj => by rw [e2]; exact b4 j hj⟩
theorem TRep.sm {S S' : SS} {v : WV} (h : TRep S v) (hm : tN v ≤ 14) (hf : ∀ t, t < 14 → S' (86 + 3 * t) = S (86 + 3 * t) ∧ S' (86 + 3 * t + 1) = S (86 + 3 * t + 1)) : TRep S' v := by
  intro t ht
  obtain ⟨e1, e2⟩ := hf t (by omega)
  rw [e1, e2]
  exact h t ht
theorem WRep.wg {S S' : SS} {v : WV} (h : WRep S 20 v) (hm : mN v ≤ 9) (hf : WG S S') : WRep S' 20 v := h.sm hm (fun k a b => hf k (by omega) (fun t ht => by omega) (by omega) (by omega) (by omega))
theorem TRep.wg {S S' : SS} {v : WV} (h : TRep S v) (hm : tN v ≤ 14) (hf : WG S S') : TRep S' v := h.sm hm (fun t ht => ⟨hf _ (by omega) (fun t' _ => by omega) (by omega) (by omega) (by omega), hf _ (by omega) (fun t' _ => by omega) (by omega) (by omega) (by omega)⟩)
section Pp
variable {Θ : Th} {S : SS} {v : WV}
theorem l_X12_pairsOf2 {d : Nat} {Q : QT} {a g : Nat} (ha : a ≤ 9) (hg : g < 512) (hz : ∀ k, k < a → bo g k = false) (he : a = 9 ∨ a < 9 ∧ bo g a = true) (K : E Θ d 0 0 yX12_pairsOf cX12_pairsOf 7 (some .int) 0 0 183 (lay Θ S) 22 [(2, .int (nI a)), (1, .int (nI g)), (0, .ref (tb Θ + 159))] [] Q) : ∀ (f : Nat) (x2 : Int32) (i : Nat), x2 = nI i → i + f = a → E Θ d 0 0 yX12_pairsOf cX12_pairsOf 7 (some .int) 0 0 183 (lay Θ S) 2 [(2, .int x2), (1, .int (nI g)), (0, .ref (tb Θ + 159))] [] Q := by
  intro f
  induction f with
  | zero =>
    intro x2 i hx2 hi
    rcases he with he | ⟨h9, he⟩
    · refine E_iload_n dX12_pairsOf_2 rfl ?_
      refine E_bipush (v := 9) dX12_pairsOf_3 (by decide) ?_
      refine E_icmp_ge dX12_pairsOf_5 (fun _ => ?_) (fun c => absurd (by rw [hx2]; exact nI_le (a := 9) (by omega) (by omega)) c)
      rw [hx2, show i = a by omega]
      exact E.loc (by exact ⟨rfl, rfl, rfl, trivial⟩) K
    · refine E_iload_n dX12_pairsOf_2 rfl ?_
      refine E_bipush (v := 9) dX12_pairsOf_3 (by decide) ?_
      refine E_icmp_ge dX12_pairsOf_5 (fun c => absurd c (fun c => absurd ((nI_leI (a := 9) (by omega) (by omega)).mp (hx2 ▸ c)) (by omega))) (fun _ => ?_)
      refine E_iload_n dX12_pairsOf_8 rfl ?_
      refine E_iload_n dX12_pairsOf_9 rfl ?_
      refine E_ishr dX12_pairsOf_10 ?_
      refine E_ic (v := 1) dX12_pairsOf_11 (by decide) ?_
      refine E_iand dX12_pairsOf_12 ?_
      rw [hx2, bo_sh hg (by omega), show i = a by omega, he, if_pos rfl]
      refine E_if_ne dX12_pairsOf_13 (fun _ => ?_) (fun c => absurd c (show ¬ nI 1 = 0 by decide))
      exact E.loc (by exact ⟨rfl, rfl, rfl, trivial⟩) K
  | succ f ih =>
    intro x2 i hx2 hi
    refine E_iload_n dX12_pairsOf_2 rfl ?_
    refine E_bipush (v := 9) dX12_pairsOf_3 (by decide) ?_
    refine E_icmp_ge dX12_pairsOf_5 (fun c => absurd c (fun c => absurd ((nI_leI (a := 9) (by omega) (by omega)).mp (hx2 ▸ c)) (by omega))) (fun _ => ?_)
    refine E_iload_n dX12_pairsOf_8 rfl ?_
    refine E_iload_n dX12_pairsOf_9 rfl ?_
    refine E_ishr dX12_pairsOf_10 ?_
    refine E_ic (v := 1) dX12_pairsOf_11 (by decide) ?_
    refine E_iand dX12_pairsOf_12 ?_
    rw [hx2, bo_sh hg (by omega), hz i (by omega), if_neg (by decide)]
    refine E_if_ne dX12_pairsOf_13 (fun c => absurd (show nI 0 = 0 by decide) c) (fun _ => ?_)
    refine E_iinc (v := 1) dX12_pairsOf_16 rfl (by decide) (by decide) ?_
    refine E_goto dX12_pairsOf_19 ?_
    exact E.loc (by exact ⟨rfl, rfl, rfl, trivial⟩) (ih _ (i + 1) (by rw [nI_1]) (by omega))
theorem l_X12_pairsOf50 {e : Nat} {Q : Int32 → HP → Prop} {pr : Nat → Nat → Bool} (hpr : ∀ p o, p < 9 → o < 9 → S 164 (9 * p + o) = if pr p o = true then 1 else 0) {f g : Nat} (hf : f ≤ 8) (hg : g < 512) (hz : ∀ k, k < 8 - f → bo g k = false) (IH : ∀ (g' : Nat) (Q' : Int32 → HP → Prop), g' < 512 → (∀ k, k < 9 - f → bo g' k = false) → Q' (nI (pH pr f (bo g'))) (lay Θ S) → C Θ e 0 0 yX12_pairsOf cX12_pairsOf 7 (some .int) [.ref (tb Θ + 159), .int (nI g')] 183 (lay Θ S) (Qi Q')) : ∀ (f2 most : Nat) (x4 x5 : Int32), f2 ≤ f → most ≤ 20 → x4 = nI most → x5 = nI (9 - f2) → Q (nI (pL (fun o => bo g o && pr (8 - f) o) (fun o => pH pr f (fun k => bo g k && k != o)) f2 most)) (lay Θ S) → E Θ (e + 1) 0 0 yX12_pairsOf cX12_pairsOf 7 (some .int) 0 0 183 (lay Θ S) 50 [(5, .int x5), (4, .int x4), (3, .int (nI (rmB g (8 - f)))), (2, .int (nI (8 - f))), (1, .int (nI g)), (0, .ref (tb Θ + 159))] [] (Qi Q) := by
  intro f2
  induction f2 with
  | zero =>
    intro most x4 x5 _ _ hx4 hx5 hq
    refine E_iload dX12_pairsOf_50 rfl ?_
    refine E_bipush (v := 9) dX12_pairsOf_52 (by decide) ?_
    refine E_icmp_ge dX12_pairsOf_54 (fun _ => ?_) (fun c => absurd (by rw [hx5]; exact nI_le (a := 9) (by omega) (by omega)) c)
    refine E_iload dX12_pairsOf_120 rfl ?_
    refine E_iret dX12_pairsOf_122 rfl rfl ?_
    rw [hx4]
    exact hq
  | succ f2 ih =>
    intro most x4 x5 hf2 hmo hx4 hx5 hq
    have hl : rmB g (8 - f) < 512 := rm_lt hg (by omega)
    have ho : 8 - f2 < 9 := by omega
    have e5 : x5 = nI (8 - f2) := by rw [hx5, show 9 - (f2 + 1) = 8 - f2 by omega]
    have hbo : bo (rmB g (8 - f)) (8 - f2) = bo g (8 - f2) := by
      rw [bo_rm hg (by omega) (by omega), show ((8 - f2) != (8 - f)) = true by simp; omega, Bool.and_true]
    rw [pL] at hq
    by_cases hb : bo g (8 - f2) = true
    · by_cases hp : pr (8 - f) (8 - f2) = true
      · have hz2 : ∀ k, k < 9 - f → bo (rmB (rmB g (8 - f)) (8 - f2)) k = false := fun k hk => by
          rw [bo_rm hl ho (by omega), bo_rm hg (by omega) (by omega)]
          rcases (show k < 8 - f ∨ k = 8 - f by omega) with h | h
          · rw [hz k h]; rfl
          · rw [h]; simp
        refine E_iload dX12_pairsOf_50 rfl ?_
        refine E_bipush (v := 9) dX12_pairsOf_52 (by decide) ?_
        refine E_icmp_ge dX12_pairsOf_54 (fun c => absurd c (fun c => absurd ((nI_leI (a := 9) (by omega) (by omega)).mp (hx5 ▸ c)) (by omega))) (fun _ => ?_)
        refine E_iload_n dX12_pairsOf_57 rfl ?_
        refine E_iload dX12_pairsOf_58 rfl ?_
        refine E_ishr dX12_pairsOf_60 ?_
        refine E_ic (v := 1) dX12_pairsOf_61 (by decide) ?_
        refine E_iand dX12_pairsOf_62 ?_
        rw [e5, bo_sh hl ho, hbo, if_pos hb]
        refine E_ic (v := 1) dX12_pairsOf_63 (by decide) ?_
        refine E_icmp_ne dX12_pairsOf_64 (fun c => absurd (show nI 1 = 1 by decide) c) (fun _ => ?_)
        refine E_aload_n dX12_pairsOf_67 rfl ?_
        refine L_get fX12_22 dX12_pairsOf_68 (by decide) sh_159 rfl ?_
        refine E_bipush (v := 9) dX12_pairsOf_71 (by decide) ?_
        refine E_iload_n dX12_pairsOf_73 rfl ?_
        refine E_imul dX12_pairsOf_74 ?_
        refine E_iload dX12_pairsOf_75 rfl ?_
        refine E_iadd dX12_pairsOf_77 ?_
        refine L_zald (j := 9 * (8 - f) + (8 - f2)) dX12_pairsOf_78 (by decide) sh_164 (by rw [show (9 : Int32) * nI (8 - f) = nI (9 * (8 - f)) from pk_mul 9 (8 - f), nI_add]) (by omega) (by decide) ?_
        rw [hpr _ _ (by omega) ho, if_pos hp]
        refine E_if_eq dX12_pairsOf_79 (fun c => absurd c (show ¬ (1 : Int32) = 0 by decide)) (fun _ => ?_)
        refine E_ic (v := 1) dX12_pairsOf_82 (by decide) ?_
        refine E_aload_n dX12_pairsOf_83 rfl ?_
        refine E_iload_n dX12_pairsOf_84 rfl ?_
        refine E_ic (v := 1) dX12_pairsOf_85 (by decide) ?_
        refine E_iload dX12_pairsOf_86 rfl ?_
        refine E_ishl dX12_pairsOf_88 ?_
        refine E_ic (v := (-1)) dX12_pairsOf_89 (by decide) ?_
        refine E_ixor dX12_pairsOf_90 ?_
        refine E_iand dX12_pairsOf_91 ?_
        rw [bo_cl hl ho]
        have eF : pH pr f (bo (rmB (rmB g (8 - f)) (8 - f2))) = pH pr f (fun k => bo g k && k != (8 - f2)) := pH_congr f _ _ (by omega) (fun k h1 h2 => by rw [bo_rm hl ho h2, bo_rm hg (by omega) h2, show (k != (8 - f)) = true by simp; omega, Bool.and_true])
        have lF := pH_le (pr := pr) f (fun k => bo g k && k != (8 - f2))
        refine E_V1i vX12_193_12 dX12_pairsOf_92 (Nat.le_of_ble_eq_true rfl) (by decide) (sh_159 _) (IH (rmB (rmB g (8 - f)) (8 - f2)) _ (rm_lt hl ho) hz2 ?_)
        rw [eF]
        refine E_iadd dX12_pairsOf_95 ?_
        rw [show (1 : Int32) + nI (pH pr f (fun k => bo g k && k != (8 - f2))) = nI (1 + pH pr f (fun k => bo g k && k != (8 - f2))) from nI_add 1 _]
        refine E_istore dX12_pairsOf_96 (by decide) ?_
        refine E_iload dX12_pairsOf_98 rfl ?_
        refine E_iload dX12_pairsOf_100 rfl ?_
        refine E_icmp_le dX12_pairsOf_102 (fun c102 => ?_) (fun c102 => ?_)
        · refine E_iload dX12_pairsOf_110 rfl ?_
          refine E_istore dX12_pairsOf_112 (by decide) ?_
          refine E_iinc (v := 1) dX12_pairsOf_114 rfl (by decide) (by decide) ?_
          refine E_goto dX12_pairsOf_117 ?_
          rw [if_pos (by rw [hb, hp]; rfl)] at hq
          rw [hx4] at c102
          rw [if_neg (fun h => absurd ((nI_leI (by omega) (by omega)).mp c102) (by omega))] at hq
          exact E.loc (by exact ⟨rfl, rfl, rfl, rfl, rfl, rfl, trivial⟩) (ih most _ _ (by omega) (by omega) hx4 (by rw [nI_1, show 8 - f2 + 1 = 9 - f2 by omega]) hq)
        · refine E_iload dX12_pairsOf_105 rfl ?_
          refine E_goto dX12_pairsOf_107 ?_
          refine E_istore dX12_pairsOf_112 (by decide) ?_
          refine E_iinc (v := 1) dX12_pairsOf_114 rfl (by decide) (by decide) ?_
          refine E_goto dX12_pairsOf_117 ?_
          rw [if_pos (by rw [hb, hp]; rfl)] at hq
          rw [hx4] at c102
          rw [if_pos ((nI_ltI (by omega) (by omega)).mp (i_nle c102))] at hq
          exact E.loc (by exact ⟨rfl, rfl, rfl, rfl, rfl, rfl, trivial⟩) (ih (1 + pH pr f (fun k => bo g k && k != (8 - f2))) _ _ (by omega) (by omega) rfl (by rw [nI_1, show 8 - f2 + 1 = 9 - f2 by omega]) hq)
      · refine E_iload dX12_pairsOf_50 rfl ?_
        refine E_bipush (v := 9) dX12_pairsOf_52 (by decide) ?_
        refine E_icmp_ge dX12_pairsOf_54 (fun c => absurd c (fun c => absurd ((nI_leI (a := 9) (by omega) (by omega)).mp (hx5 ▸ c)) (by omega))) (fun _ => ?_)
        refine E_iload_n dX12_pairsOf_57 rfl ?_
        refine E_iload dX12_pairsOf_58 rfl ?_
        refine E_ishr dX12_pairsOf_60 ?_
        refine E_ic (v := 1) dX12_pairsOf_61 (by decide) ?_
        refine E_iand dX12_pairsOf_62 ?_
        rw [e5, bo_sh hl ho, hbo, if_pos hb]
        refine E_ic (v := 1) dX12_pairsOf_63 (by decide) ?_
        refine E_icmp_ne dX12_pairsOf_64 (fun c => absurd (show nI 1 = 1 by decide) c) (fun _ => ?_)
        refine E_aload_n dX12_pairsOf_67 rfl ?_
        refine L_get fX12_22 dX12_pairsOf_68 (by decide) sh_159 rfl ?_
        refine E_bipush (v := 9) dX12_pairsOf_71 (by decide) ?_
        refine E_iload_n dX12_pairsOf_73 rfl ?_
        refine E_imul dX12_pairsOf_74 ?_
        refine E_iload dX12_pairsOf_75 rfl ?_
        refine E_iadd dX12_pairsOf_77 ?_
        refine L_zald (j := 9 * (8 - f) + (8 - f2)) dX12_pairsOf_78 (by decide) sh_164 (by rw [show (9 : Int32) * nI (8 - f) = nI (9 * (8 - f)) from pk_mul 9 (8 - f), nI_add]) (by omega) (by decide) ?_
        rw [hpr _ _ (by omega) ho, if_neg hp]
        refine E_if_eq dX12_pairsOf_79 (fun _ => ?_) (fun c => absurd rfl c)
        refine E_iinc (v := 1) dX12_pairsOf_114 rfl (by decide) (by decide) ?_
        refine E_goto dX12_pairsOf_117 ?_
        rw [if_neg (by intro h; exact hp (Bool.and_eq_true_iff.mp h).2)] at hq
        exact E.loc (by exact ⟨rfl, rfl, rfl, rfl, rfl, rfl, trivial⟩) (ih most _ _ (by omega) (by omega) hx4 (by rw [nI_1, show 8 - f2 + 1 = 9 - f2 by omega]) hq)
    · refine E_iload dX12_pairsOf_50 rfl ?_
      refine E_bipush (v := 9) dX12_pairsOf_52 (by decide) ?_
      refine E_icmp_ge dX12_pairsOf_54 (fun c => absurd c (fun c => absurd ((nI_leI (a := 9) (by omega) (by omega)).mp (hx5 ▸ c)) (by omega))) (fun _ => ?_)
      refine E_iload_n dX12_pairsOf_57 rfl ?_
      refine E_iload dX12_pairsOf_58 rfl ?_
      refine E_ishr dX12_pairsOf_60 ?_
      refine E_ic (v := 1) dX12_pairsOf_61 (by decide) ?_
      refine E_iand dX12_pairsOf_62 ?_
      rw [e5, bo_sh hl ho, hbo, if_neg hb]
      refine E_ic (v := 1) dX12_pairsOf_63 (by decide) ?_
      refine E_icmp_ne dX12_pairsOf_64 (fun _ => ?_) (fun c => absurd c (show ¬ nI 0 = 1 by decide))
      refine E_iinc (v := 1) dX12_pairsOf_114 rfl (by decide) (by decide) ?_
      refine E_goto dX12_pairsOf_117 ?_
      rw [if_neg (by intro h; exact hb (Bool.and_eq_true_iff.mp h).1)] at hq
      exact E.loc (by exact ⟨rfl, rfl, rfl, rfl, rfl, rfl, trivial⟩) (ih most _ _ (by omega) (by omega) hx4 (by rw [nI_1, show 8 - f2 + 1 = 9 - f2 by omega]) hq)
theorem s_X12_pairsOf {pr : Nat → Nat → Bool} (hpr : ∀ p o, p < 9 → o < 9 → S 164 (9 * p + o) = if pr p o = true then 1 else 0) : ∀ (f d g : Nat) (Q : Int32 → HP → Prop), g < 512 → (∀ k, k < 9 - f → bo g k = false) → f ≤ 9 → Q (nI (pH pr f (bo g))) (lay Θ S) → C Θ (d + f) 0 0 yX12_pairsOf cX12_pairsOf 7 (some .int) [.ref (tb Θ + 159), .int (nI g)] 183 (lay Θ S) (Qi Q) := by
  intro f
  induction f with
  | zero =>
    intro d g Q hg hz hf hq
    refine C_of rfl rfl (Nat.le_of_ble_eq_true rfl) ?_
    refine E_ic (v := 0) dX12_pairsOf_0 (by decide) ?_
    refine E_istore_n dX12_pairsOf_1 (by decide) ?_
    refine E.loc (ls' := [(2, .int 0), (1, .int (nI g)), (0, .ref (tb Θ + 159))]) (by exact ⟨rfl, rfl, rfl, trivial⟩) (l_X12_pairsOf2 (a := 9) (by omega) hg (fun k hk => hz k (by omega)) (Or.inl rfl) ?_ 9 0 0 rfl (by omega))
    refine E_iload_n dX12_pairsOf_22 rfl ?_
    refine E_bipush (v := 9) dX12_pairsOf_23 (by decide) ?_
    refine E_icmp_ne dX12_pairsOf_25 (fun c => absurd (show nI 9 = 9 by decide) c) (fun _ => ?_)
    refine E_ic (v := 0) dX12_pairsOf_28 (by decide) ?_
    refine E_iret dX12_pairsOf_29 rfl rfl ?_
    exact hq
  | succ f ih =>
    intro d g Q hg hz hf hq
    by_cases hb : bo g (8 - f) = true
    · have hz2 : ∀ k, k < 9 - f → bo (rmB g (8 - f)) k = false := fun k hk => by
        rw [bo_rm hg (by omega) (by omega)]
        rcases (show k < 8 - f ∨ k = 8 - f by omega) with h | h
        · rw [hz k (by omega)]; rfl
        · rw [h]; simp
      rw [pH, if_pos hb] at hq
      refine C_of rfl rfl (Nat.le_of_ble_eq_true rfl) ?_
      refine E_ic (v := 0) dX12_pairsOf_0 (by decide) ?_
      refine E_istore_n dX12_pairsOf_1 (by decide) ?_
      refine E.loc (ls' := [(2, .int 0), (1, .int (nI g)), (0, .ref (tb Θ + 159))]) (by exact ⟨rfl, rfl, rfl, trivial⟩) (l_X12_pairsOf2 (a := 8 - f) (by omega) hg (fun k hk => hz k (by omega)) (Or.inr ⟨by omega, hb⟩) ?_ (8 - f) 0 0 rfl (by omega))
      refine E_iload_n dX12_pairsOf_22 rfl ?_
      refine E_bipush (v := 9) dX12_pairsOf_23 (by decide) ?_
      refine E_icmp_ne dX12_pairsOf_25 (fun _ => ?_) (fun c => absurd c (fun e => absurd (nI_inj (by omega) (by omega) (show nI (8 - f) = nI 9 from e)) (by omega)))
      refine E_iload_n dX12_pairsOf_30 rfl ?_
      refine E_ic (v := 1) dX12_pairsOf_31 (by decide) ?_
      refine E_iload_n dX12_pairsOf_32 rfl ?_
      refine E_ishl dX12_pairsOf_33 ?_
      refine E_ic (v := (-1)) dX12_pairsOf_34 (by decide) ?_
      refine E_ixor dX12_pairsOf_35 ?_
      refine E_iand dX12_pairsOf_36 ?_
      rw [bo_cl hg (by omega)]
      refine E_istore_n dX12_pairsOf_37 (by decide) ?_
      refine E_aload_n dX12_pairsOf_38 rfl ?_
      refine E_iload_n dX12_pairsOf_39 rfl ?_
      refine E_V1i vX12_193_12 dX12_pairsOf_40 (Nat.le_of_ble_eq_true rfl) (by decide) (sh_159 _) (ih d (rmB g (8 - f)) _ (rm_lt hg (by omega)) hz2 (by omega) ?_)
      rw [pH_congr f (bo (rmB g (8 - f))) (bo g) (by omega) (fun k h1 h2 => by rw [bo_rm hg (by omega) h2, show (k != (8 - f)) = true by simp; omega, Bool.and_true])]
      refine E_istore dX12_pairsOf_43 (by decide) ?_
      refine E_iload_n dX12_pairsOf_45 rfl ?_
      refine E_ic (v := 1) dX12_pairsOf_46 (by decide) ?_
      refine E_iadd dX12_pairsOf_47 ?_
      refine E_istore dX12_pairsOf_48 (by decide) ?_
      have lm := pH_le (pr := pr) f (bo g)
      exact E.loc (by exact ⟨rfl, rfl, rfl, rfl, rfl, rfl, trivial⟩) (l_X12_pairsOf50 hpr (by omega) hg (fun k hk => hz k (by omega)) (fun g' Q' a b c => ih d g' Q' a b (by omega) c) f (pH pr f (bo g)) _ _ (Nat.le_refl _) (by omega) rfl (by rw [nI_1, show 8 - f + 1 = 9 - f by omega]) hq)
    · rw [pH, if_neg hb] at hq
      have hb0 : bo g (8 - f) = false := by cases h : bo g (8 - f) <;> simp_all
      have := ih (d + 1) g Q hg (fun k hk => by rcases (show k < 8 - f ∨ k = 8 - f by omega) with h | h; exact hz k (by omega); rw [h]; exact hb0) (by omega) hq
      rw [show d + 1 + f = d + (f + 1) by omega] at this
      exact this
end Pp
