/-! copy, on both sides -/
def shCp (X : SH) (s a t b c : Nat) : SH := (X.1, X.2.1, fun i j => if i = t ∧ b ≤ j ∧ j < b + c then X.2.2 s (a + (j - b)) else X.2.2 i j)
abbrev cpD (p q m : Int32) (n n' : Nat) : Prop := (¬ p < 0 ∧ ¬ m < 0 ∧ p.toNatClampNeg + m.toNatClampNeg ≤ n) ∧ (¬ q < 0 ∧ ¬ m < 0 ∧ q.toNatClampNeg + m.toNatClampNeg ≤ n')
def copyR (X : SH) (x p y q m : Int32) : Int32 × SH := (ix x 4).elim (bad, X) fun s => (ix y 4).elim (bad, X) fun t => if X.1 s < 0 ∨ X.1 t < 0 then (nothC, X) else if ¬ X.1 s = X.1 t then (kindC, X) else if cpD p q m (X.2.1 s) (X.2.1 t) then (m, shCp X s p.toNatClampNeg t q.toNatClampNeg m.toNatClampNeg) else (indexC, X)
theorem cpA {x y : Int32} {n : Nat} (hn : n ≤ 24) : (¬ x < 0 ∧ ¬ y < 0 ∧ ¬ nI n < x ∧ ¬ nI n - x < y) ↔ (¬ x < 0 ∧ ¬ y < 0 ∧ x.toNatClampNeg + y.toNatClampNeg ≤ n) := by
  constructor
  · rintro ⟨h1, h2, h3, h4⟩
    obtain ⟨a, ha, rfl⟩ := nI_of h1
    obtain ⟨c, hc, rfl⟩ := nI_of h2
    rw [nI_clamp ha, nI_clamp hc]
    have g := (nI_leI ha (by omega)).mp (i_nlt h3)
    rw [pk_sub g] at h4
    have g2 := (nI_leI hc (by omega)).mp (i_nlt h4)
    exact ⟨h1, h2, by omega⟩
  · rintro ⟨h1, h2, h3⟩
    obtain ⟨a, ha, rfl⟩ := nI_of h1
    obtain ⟨c, hc, rfl⟩ := nI_of h2
    rw [nI_clamp ha, nI_clamp hc] at h3
    rw [pk_sub (show a ≤ n by omega)]
    exact ⟨h1, h2, nI_nlt (by omega) (by omega), nI_nlt (by omega) (by omega)⟩
theorem cpB {x y : Int32} {n : Nat} (hn : n ≤ 24) (h1 : ¬ x < 0) (h2 : ¬ y < 0) : ¬ nI n - y < x ↔ x.toNatClampNeg + y.toNatClampNeg ≤ n := by
  obtain ⟨a, ha, rfl⟩ := nI_of h1
  obtain ⟨c, hc, rfl⟩ := nI_of h2
  rw [nI_clamp ha, nI_clamp hc, Int32.lt_iff_toInt_lt]
  have e : (nI n - nI c).toInt = (n : Int) - c := by
    rw [Int32.toInt_sub, nI_toInt (by omega), nI_toInt hc]
    exact Int.bmod_eq_of_le (by omega) (by omega)
  rw [e, nI_toInt ha]
  omega
theorem CSh.cp {S S' : SS} {X : SH} {s a t b c : Nat} (h : CSh S X) (hs : s < 4) (ht : t < 4) (h1 : a + c ≤ 24) (h2 : S' (131 + 2 * t + 1) = va_cpy (S (131 + 2 * s + 1)) (S (131 + 2 * t + 1)) a b c) (hf : ∀ k, k ≠ 131 + 2 * t + 1 → S' k = S k) : CSh S' (shCp X s a t b c) := by
  intro i hi
  obtain ⟨x, y, z⟩ := h i hi
  refine ⟨by rw [hf _ (by omega)]; exact x, by rw [hf _ (by omega)]; exact y, fun j hj => ?_⟩
  simp only [shCp]
  by_cases e : i = t
  · subst e
    rw [h2]
    by_cases g : b ≤ j ∧ j < b + c
    · rw [pk_cpy_in g.1 g.2, if_pos ⟨rfl, g⟩]
      exact (h s hs).2.2 _ (by omega)
    · rw [pk_cpy_out (by omega), if_neg (fun z => g z.2)]
      exact z j hj
  · rw [hf _ (by omega), if_neg (fun z => e z.1)]
    exact z j hj
theorem RSh.cp {S S' : SS} {X : SH} {s a t b c : Nat} (h : RSh S X) (ht : t < 4) (h5 : b + c ≤ 24) (h2 : ∀ k, k < c → S' 176 (24 * t + b + k) = X.2.2 s (a + k)) (h3 : ∀ j, (j < 24 * t + b ∨ 24 * t + b + c ≤ j) → S' 176 j = S 176 j) (hf : ∀ k, k ≠ 176 → k ≠ 181 → S' k = S k) : RSh S' (shCp X s a t b c) := by
  intro i hi
  obtain ⟨x, y, z⟩ := h i hi
  refine ⟨by rw [hf _ (by omega) (by omega)]; exact x, by rw [hf _ (by omega) (by omega)]; exact y, fun j hj => ?_⟩
  simp only [shCp]
  by_cases e : i = t ∧ b ≤ j ∧ j < b + c
  · rw [if_pos e, e.1, show 24 * t + j = 24 * t + b + (j - b) by omega]
    exact h2 _ (by omega)
  · rw [if_neg e, h3 _ (by omega)]
    exact z j hj
section Cy
variable {Θ : Th} {d : Nat} {S : SS} {v : WV}
theorem s_X11_copy {Q : Int32 → HP → Prop} {X : SH} (hX : CSh S X) (oX : OSh X) {x p y q m : Int32} (hq : ∀ S', CSh S' (copyR X x p y q m).2 → CSF S S' → Q (copyR X x p y q m).1 (lay Θ S')) : C Θ (d + 2) 0 0 yX11_copy cX11_copy 8 (some .int) [.ref (tb Θ + 0), .int x, .int p, .int y, .int q, .int m] 183 (lay Θ S) (Qi Q) := by
  refine C_of rfl rfl (Nat.le_of_ble_eq_true rfl) ?_
  refine E_iload_n dX11_copy_0 rfl ?_
  refine E_S1i sX11_237 dX11_copy_1 (Nat.le_of_ble_eq_true rfl) (s_X11_isSheet (fun g1 => ?_) (fun g1 => ?_))
  · obtain ⟨s, hs, es, is⟩ := ix_some (by omega) g1
    refine E_if_eq dX11_copy_4 (fun c => absurd c (by decide)) (fun _ => ?_)
    refine E_iload_n dX11_copy_7 rfl ?_
    refine E_S1i sX11_237 dX11_copy_8 (Nat.le_of_ble_eq_true rfl) (s_X11_isSheet (fun g2 => ?_) (fun g2 => ?_))
    · obtain ⟨t, ht, et, it⟩ := ix_some (by omega) g2
      refine E_if_ne dX11_copy_11 (fun _ => ?_) (fun c => absurd c (by decide))
      refine E_aload_n dX11_copy_17 rfl ?_
      refine L_get fX11_30 dX11_copy_18 (by decide) sh_0 rfl ?_
      refine E_iload_n dX11_copy_21 rfl ?_
      refine L_aald (j := s) dX11_copy_22 (by decide) sh_5 rfl es hs (by decide) (if_pos hs) ?_
      refine E_astore dX11_copy_23 (by decide) ?_
      refine E_aload_n dX11_copy_25 rfl ?_
      refine L_get fX11_30 dX11_copy_26 (by decide) sh_0 rfl ?_
      refine E_iload_n dX11_copy_29 rfl ?_
      refine L_aald (j := t) dX11_copy_30 (by decide) sh_5 rfl et ht (by decide) (if_pos ht) ?_
      refine E_astore dX11_copy_31 (by decide) ?_
      refine E_aload dX11_copy_33 rfl ?_
      refine E_V0i vX11_240_5 dX11_copy_35 (Nat.le_of_ble_eq_true rfl) (by have := ((isR_s hs)).lt; omega) ((sh_R (isR_s hs)) _) (s_X5_isMissing (isR_s hs) (fun gm => ?_) (fun gm => ?_))
      · have gm : X.1 s < 0 := (so_neg oX hs).mpr ((hX s hs).1.symm.trans gm)
        refine E_if_ne dX11_copy_38 (fun _ => ?_) (fun c => absurd c (by decide))
        refine E_ldc dX11_copy_49 kX11_244 ?_
        refine E_iret dX11_copy_51 rfl rfl ?_
        rw [copyR, is, Option.elim, it, Option.elim, if_pos (Or.inl gm)] at hq
        exact hq S hX CSF.rf
      · have gm : ¬ X.1 s < 0 := fun h => gm ((hX s hs).1.trans ((so_neg oX hs).mp h))
        refine E_if_ne dX11_copy_38 (fun c => absurd rfl c) (fun _ => ?_)
        refine E_aload dX11_copy_41 rfl ?_
        refine E_V0i vX11_240_5 dX11_copy_43 (Nat.le_of_ble_eq_true rfl) (by have := ((isR_s ht)).lt; omega) ((sh_R (isR_s ht)) _) (s_X5_isMissing (isR_s ht) (fun gn => ?_) (fun gn => ?_))
        · have gn : X.1 t < 0 := (so_neg oX ht).mpr ((hX t ht).1.symm.trans gn)
          refine E_if_eq dX11_copy_46 (fun c => absurd c (by decide)) (fun _ => ?_)
          refine E_ldc dX11_copy_49 kX11_244 ?_
          refine E_iret dX11_copy_51 rfl rfl ?_
          rw [copyR, is, Option.elim, it, Option.elim, if_pos (Or.inr gn)] at hq
          exact hq S hX CSF.rf
        · have gn : ¬ X.1 t < 0 := fun h => gn ((hX t ht).1.trans ((so_neg oX ht).mp h))
          refine E_if_eq dX11_copy_46 (fun _ => ?_) (fun c => absurd (by decide) c)
          refine E_aload dX11_copy_52 rfl ?_
          refine L_get fX11_289 dX11_copy_54 (by have := ((isR_s hs)).lt; omega) (sh_R (isR_s hs)) rfl ?_
          refine E_aload dX11_copy_57 rfl ?_
          refine L_get fX11_289 dX11_copy_59 (by have := ((isR_s ht)).lt; omega) (sh_R (isR_s ht)) rfl ?_
          refine E_icmp_eq dX11_copy_62 (fun c62 => ?_) (fun c62 => ?_)
          · refine E_aload dX11_copy_68 rfl ?_
            refine E_iload_n dX11_copy_70 rfl ?_
            refine E_iload dX11_copy_71 rfl ?_
            refine E_V2i vX11_306_5 dX11_copy_73 (Nat.le_of_ble_eq_true rfl) (by have := ((isR_s hs)).lt; omega) ((sh_R (isR_s hs)) _) (s_X5_hasPlaces (isR_s hs) (hX s hs).2.1 (fun ga => ?_) (fun ga => ?_))
            · have ga := (cpA (oX s hs).2).mp ga
              refine E_if_eq dX11_copy_76 (fun c => absurd c (by decide)) (fun _ => ?_)
              refine E_aload dX11_copy_79 rfl ?_
              refine E_iload dX11_copy_81 rfl ?_
              refine E_iload dX11_copy_83 rfl ?_
              refine E_V2i vX11_306_5 dX11_copy_85 (Nat.le_of_ble_eq_true rfl) (by have := ((isR_s ht)).lt; omega) ((sh_R (isR_s ht)) _) (s_X5_hasPlaces (isR_s ht) (hX t ht).2.1 (fun gb => ?_) (fun gb => ?_))
              · have gb := (cpA (oX t ht).2).mp gb
                refine E_if_ne dX11_copy_88 (fun _ => ?_) (fun c => absurd c (by decide))
                have hD : cpD p q m (X.2.1 s) (X.2.1 t) := ⟨ga, gb⟩
                have n1 := (oX s hs).2
                have n2 := (oX t ht).2
                obtain ⟨⟨p0, m0, l1⟩, q0, -, l2⟩ := hD
                obtain ⟨a, ha, ea⟩ := nI_of p0
                obtain ⟨b, hb, eb⟩ := nI_of q0
                obtain ⟨c, hc, ec⟩ := nI_of m0
                have ea' : p.toNatClampNeg = a := by rw [ea, nI_clamp ha]
                have eb' : q.toNatClampNeg = b := by rw [eb, nI_clamp hb]
                have ec' : m.toNatClampNeg = c := by rw [ec, nI_clamp hc]
                rw [ea', ec'] at l1
                rw [eb', ec'] at l2
                refine E_aload dX11_copy_95 rfl ?_
                refine L_get fX11_292 dX11_copy_97 (by have := ((isR_s hs)).lt; omega) (sh_R (isR_s hs)) rfl ?_
                refine E_iload_n dX11_copy_100 rfl ?_
                refine E_aload dX11_copy_101 rfl ?_
                refine L_get fX11_292 dX11_copy_103 (by have := ((isR_s ht)).lt; omega) (sh_R (isR_s ht)) rfl ?_
                refine E_iload dX11_copy_106 rfl ?_
                refine E_iload dX11_copy_108 rfl ?_
                refine L_copy (sp := a) (dp := b) (len := c) mX11_309 dX11_copy_110 (Nat.le_of_ble_eq_true rfl) (by have := (isR_s hs).lt; omega) (sh_Rp (isR_s hs)) (by have := (isR_s ht).lt; omega) (sh_Rp (isR_s ht)) ea eb ec (by omega) (by omega) (by decide) (by decide) ?_
                refine E_iload dX11_copy_113 rfl ?_
                refine E_iret dX11_copy_115 rfl rfl ?_
                rw [copyR, is, Option.elim, it, Option.elim, if_neg (fun h => h.elim gm gn), if_neg (fun h => h ((hX s hs).1.symm.trans (c62.trans (hX t ht).1))), if_pos (show cpD p q m (X.2.1 s) (X.2.1 t) from ⟨ga, gb⟩), ea', eb', ec'] at hq
                exact hq _ (hX.cp hs ht (by omega) vu_at (fun k hk => vu_ne hk)) (fun k hk => vu_ne (by omega))
              · have gb := fun h => gb ((cpA (oX t ht).2).mpr h)
                refine E_if_ne dX11_copy_88 (fun c => absurd rfl c) (fun _ => ?_)
                refine E_ldcw dX11_copy_91 kX11_288 ?_
                refine E_iret dX11_copy_94 rfl rfl ?_
                rw [copyR, is, Option.elim, it, Option.elim, if_neg (fun h => h.elim gm gn), if_neg (fun h => h ((hX s hs).1.symm.trans (c62.trans (hX t ht).1))), if_neg (show ¬ cpD p q m (X.2.1 s) (X.2.1 t) from fun h => gb h.2)] at hq
                exact hq S hX CSF.rf
            · have ga := fun h => ga ((cpA (oX s hs).2).mpr h)
              refine E_if_eq dX11_copy_76 (fun _ => ?_) (fun c => absurd (by decide) c)
              refine E_ldcw dX11_copy_91 kX11_288 ?_
              refine E_iret dX11_copy_94 rfl rfl ?_
              rw [copyR, is, Option.elim, it, Option.elim, if_neg (fun h => h.elim gm gn), if_neg (fun h => h ((hX s hs).1.symm.trans (c62.trans (hX t ht).1))), if_neg (show ¬ cpD p q m (X.2.1 s) (X.2.1 t) from fun h => ga h.1)] at hq
              exact hq S hX CSF.rf
          · refine E_ldc dX11_copy_65 kX11_152 ?_
            refine E_iret dX11_copy_67 rfl rfl ?_
            rw [copyR, is, Option.elim, it, Option.elim, if_neg (fun h => h.elim gm gn), if_pos (fun h => c62 ((hX s hs).1.trans (h.trans (hX t ht).1.symm)))] at hq
            exact hq S hX CSF.rf
    · have it := ix_none (by omega) g2
      refine E_if_ne dX11_copy_11 (fun c => absurd rfl c) (fun _ => ?_)
      refine E_ldc dX11_copy_14 kX11_105 ?_
      refine E_iret dX11_copy_16 rfl rfl ?_
      rw [copyR, is, Option.elim, it] at hq
      exact hq S hX CSF.rf
  · have is := ix_none (by omega) g1
    refine E_if_eq dX11_copy_4 (fun _ => ?_) (fun c => absurd (by decide) c)
    refine E_ldc dX11_copy_14 kX11_105 ?_
    refine E_iret dX11_copy_16 rfl rfl ?_
    rw [copyR, is] at hq
    exact hq S hX CSF.rf
theorem ce_ix3 {s a k : Nat} : (24 : Int32) * nI s + nI a + nI k = nI (24 * s + a + k) := by rw [ce_ix, nI_add]
theorem l_X12_copy104 {Q : Int32 → HP → Prop} {s a t b c : Nat} (hs : s < 4) (ht : t < 4) (h1 : a + c ≤ 24) (h2 : b + c ≤ 24) {ce : Nat → Int32} : ∀ (f : Nat) (S : SS) (x6 : Int32) (i : Nat), x6 = nI i → i + f = c → (∀ k, k < 24 → S 176 (24 * s + k) = ce k) → (∀ k, k < i → S 181 k = ce (a + k)) → (∀ S', (∀ k, k < c → S' 181 k = ce (a + k)) → (∀ k, k ≠ 181 → S' k = S k) → ∀ x6, E Θ d 0 0 yX12_copy cX12_copy 7 (some .int) 0 0 183 (lay Θ S') 138 [(6, .int x6), (5, .int (nI c)), (4, .int (nI b)), (3, .int (nI t)), (2, .int (nI a)), (1, .int (nI s)), (0, .ref (tb Θ + 159))] [] (Qi Q)) → E Θ d 0 0 yX12_copy cX12_copy 7 (some .int) 0 0 183 (lay Θ S) 104 [(6, .int x6), (5, .int (nI c)), (4, .int (nI b)), (3, .int (nI t)), (2, .int (nI a)), (1, .int (nI s)), (0, .ref (tb Θ + 159))] [] (Qi Q) := by
  intro f
  induction f with
  | zero =>
    intro S x6 i hx6 hi hX hz K
    refine E_iload dX12_copy_104 rfl ?_
    refine E_iload dX12_copy_106 rfl ?_
    refine E_icmp_ge dX12_copy_108 (fun _ => ?_) (fun c => absurd (by rw [hx6]; exact nI_le (by omega) (by omega)) c)
    exact E.loc (by exact ⟨rfl, rfl, rfl, rfl, rfl, rfl, rfl, trivial⟩) (K S (fun k hk => hz k (by omega)) (fun _ _ => rfl) x6)
  | succ f ih =>
    intro S x6 i hx6 hi hX hz K
    refine E_iload dX12_copy_104 rfl ?_
    refine E_iload dX12_copy_106 rfl ?_
    refine E_icmp_ge dX12_copy_108 (fun c => absurd c (ge_no (by omega) (by omega) hx6 (by omega))) (fun _ => ?_)
    refine E_aload_n dX12_copy_111 rfl ?_
    refine L_get fX12_75 dX12_copy_112 (by decide) sh_159 rfl ?_
    refine E_iload dX12_copy_115 rfl ?_
    refine E_aload_n dX12_copy_117 rfl ?_
    refine L_get fX12_60 dX12_copy_118 (by decide) sh_159 rfl ?_
    refine E_bipush (v := 24) dX12_copy_121 (by decide) ?_
    refine E_iload_n dX12_copy_123 rfl ?_
    refine E_imul dX12_copy_124 ?_
    refine E_iload_n dX12_copy_125 rfl ?_
    refine E_iadd dX12_copy_126 ?_
    refine E_iload dX12_copy_127 rfl ?_
    refine E_iadd dX12_copy_129 ?_
    refine L_iald (j := 24 * s + a + i) dX12_copy_130 (by decide) sh_176 (by rw [hx6]; exact ce_ix3) (by omega) (by decide) ?_
    rw [Nat.add_assoc, hX _ (by omega)]
    refine L_iast (j := i) dX12_copy_131 (by decide) sh_181 hx6 (by omega) (by decide) ?_
    refine E_iinc (v := 1) dX12_copy_132 rfl (by decide) (by decide) ?_
    refine E_goto dX12_copy_135 ?_
    refine E.loc (by exact ⟨rfl, rfl, rfl, rfl, rfl, rfl, rfl, trivial⟩) (ih _ _ (i + 1) (by rw [hx6, nI_1]) (by omega) (fun k hk => by rw [wr_ne (by decide)]; exact hX k hk) (fun k hk => ?_) (fun S9 a9 c9 => K S9 a9 (fun k hk => (c9 k hk).trans (wr_ne hk))))
    rw [wr_at]
    by_cases e : k = i
    · rw [e, pk_us]
    · rw [pk_un e]
      exact hz k (by omega)
theorem l_X12_copy141 {Q : Int32 → HP → Prop} {s a t b c : Nat} (hs : s < 4) (ht : t < 4) (h1 : a + c ≤ 24) (h2 : b + c ≤ 24) {ce : Nat → Int32} : ∀ (f : Nat) (S : SS) (x6 : Int32) (i : Nat), x6 = nI i → i + f = c → (∀ k, k < c → S 181 k = ce (a + k)) → (∀ k, k < i → S 176 (24 * t + b + k) = ce (a + k)) → (∀ S', (∀ k, k < c → S' 176 (24 * t + b + k) = ce (a + k)) → (∀ j, (j < 24 * t + b ∨ 24 * t + b + c ≤ j) → S' 176 j = S 176 j) → (∀ k, k ≠ 176 → S' k = S k) → Q (nI c) (lay Θ S')) → E Θ d 0 0 yX12_copy cX12_copy 7 (some .int) 0 0 183 (lay Θ S) 141 [(6, .int x6), (5, .int (nI c)), (4, .int (nI b)), (3, .int (nI t)), (2, .int (nI a)), (1, .int (nI s)), (0, .ref (tb Θ + 159))] [] (Qi Q) := by
  intro f
  induction f with
  | zero =>
    intro S x6 i hx6 hi hM hz hq
    refine E_iload dX12_copy_141 rfl ?_
    refine E_iload dX12_copy_143 rfl ?_
    refine E_icmp_ge dX12_copy_145 (fun _ => ?_) (fun c => absurd (by rw [hx6]; exact nI_le (by omega) (by omega)) c)
    refine E_iload dX12_copy_176 rfl ?_
    refine E_iret dX12_copy_178 rfl rfl ?_
    exact hq S (fun k hk => hz k (by omega)) (fun _ _ => rfl) (fun _ _ => rfl)
  | succ f ih =>
    intro S x6 i hx6 hi hM hz hq
    refine E_iload dX12_copy_141 rfl ?_
    refine E_iload dX12_copy_143 rfl ?_
    refine E_icmp_ge dX12_copy_145 (fun c => absurd c (ge_no (by omega) (by omega) hx6 (by omega))) (fun _ => ?_)
    refine E_aload_n dX12_copy_148 rfl ?_
    refine L_get fX12_60 dX12_copy_149 (by decide) sh_159 rfl ?_
    refine E_bipush (v := 24) dX12_copy_152 (by decide) ?_
    refine E_iload_n dX12_copy_154 rfl ?_
    refine E_imul dX12_copy_155 ?_
    refine E_iload dX12_copy_156 rfl ?_
    refine E_iadd dX12_copy_158 ?_
    refine E_iload dX12_copy_159 rfl ?_
    refine E_iadd dX12_copy_161 ?_
    refine E_aload_n dX12_copy_162 rfl ?_
    refine L_get fX12_75 dX12_copy_163 (by decide) sh_159 rfl ?_
    refine E_iload dX12_copy_166 rfl ?_
    refine L_iald (j := i) dX12_copy_168 (by decide) sh_181 hx6 (by omega) (by decide) ?_
    rw [hM i (by omega)]
    refine L_iast (j := 24 * t + b + i) dX12_copy_169 (by decide) sh_176 (by rw [hx6]; exact ce_ix3) (by omega) (by decide) ?_
    refine E_iinc (v := 1) dX12_copy_170 rfl (by decide) (by decide) ?_
    refine E_goto dX12_copy_173 ?_
    refine E.loc (by exact ⟨rfl, rfl, rfl, rfl, rfl, rfl, rfl, trivial⟩) (ih _ _ (i + 1) (by rw [hx6, nI_1]) (by omega) (fun k hk => by rw [wr_ne (by decide)]; exact hM k hk) (fun k hk => ?_) (fun S9 a9 b9 c9 => hq S9 a9 (fun j hj => by rw [b9 j hj, wr_at, pk_un (by omega)]) (fun k hk => (c9 k hk).trans (wr_ne hk))))
    rw [wr_at]
    by_cases e : k = i
    · rw [e, pk_us]
    · rw [pk_un (by omega)]
      exact hz k (by omega)
def RSG (S S' : SS) : Prop := ∀ k, k ≠ 174 → k ≠ 175 → k ≠ 176 → k ≠ 181 → S' k = S k
theorem RSG.rf {S : SS} : RSG S S := fun _ _ _ _ _ => rfl
theorem s_X12_copy {Q : Int32 → HP → Prop} {X : SH} (hX : RSh S X) (oX : OSh X) {x p y q m : Int32} (hq : ∀ S', RSh S' (copyR X x p y q m).2 → RSG S S' → Q (copyR X x p y q m).1 (lay Θ S')) : C Θ (d + 2) 0 0 yX12_copy cX12_copy 7 (some .int) [.ref (tb Θ + 159), .int x, .int p, .int y, .int q, .int m] 183 (lay Θ S) (Qi Q) := by
  refine C_of rfl rfl (Nat.le_of_ble_eq_true rfl) ?_
  refine E_iload_n dX12_copy_0 rfl ?_
  refine E_S1i sX12_202 dX12_copy_1 (Nat.le_of_ble_eq_true rfl) (s_X12_isSheet (fun g1 => ?_) (fun g1 => ?_))
  · obtain ⟨s, hs, es, is⟩ := ix_some (by omega) g1
    refine E_if_eq dX12_copy_4 (fun c => absurd c (by decide)) (fun _ => ?_)
    refine E_iload_n dX12_copy_7 rfl ?_
    refine E_S1i sX12_202 dX12_copy_8 (Nat.le_of_ble_eq_true rfl) (s_X12_isSheet (fun g2 => ?_) (fun g2 => ?_))
    · obtain ⟨t, ht, et, it⟩ := ix_some (by omega) g2
      refine E_if_ne dX12_copy_11 (fun _ => ?_) (fun c => absurd c (by decide))
      have n1 := (oX s hs).2
      have n2 := (oX t ht).2
      refine E_aload_n dX12_copy_17 rfl ?_
      refine L_get fX12_54 dX12_copy_18 (by decide) sh_159 rfl ?_
      refine E_iload_n dX12_copy_21 rfl ?_
      refine L_iald (j := s) dX12_copy_22 (by decide) sh_174 es hs (by decide) ?_
      rw [(hX s hs).1]
      refine E_if_lt dX12_copy_23 (fun c23 => ?_) (fun c23 => ?_)
      · refine E_ldc dX12_copy_35 kX12_205 ?_
        refine E_iret dX12_copy_37 rfl rfl ?_
        rw [copyR, is, Option.elim, it, Option.elim, if_pos (Or.inl c23)] at hq
        exact hq S hX RSG.rf
      · refine E_aload_n dX12_copy_26 rfl ?_
        refine L_get fX12_54 dX12_copy_27 (by decide) sh_159 rfl ?_
        refine E_iload_n dX12_copy_30 rfl ?_
        refine L_iald (j := t) dX12_copy_31 (by decide) sh_174 et ht (by decide) ?_
        rw [(hX t ht).1]
        refine E_if_ge dX12_copy_32 (fun c32 => ?_) (fun c32 => ?_)
        · refine E_aload_n dX12_copy_38 rfl ?_
          refine L_get fX12_54 dX12_copy_39 (by decide) sh_159 rfl ?_
          refine E_iload_n dX12_copy_42 rfl ?_
          refine L_iald (j := s) dX12_copy_43 (by decide) sh_174 es hs (by decide) ?_
          rw [(hX s hs).1]
          refine E_aload_n dX12_copy_44 rfl ?_
          refine L_get fX12_54 dX12_copy_45 (by decide) sh_159 rfl ?_
          refine E_iload_n dX12_copy_48 rfl ?_
          refine L_iald (j := t) dX12_copy_49 (by decide) sh_174 et ht (by decide) ?_
          rw [(hX t ht).1]
          refine E_icmp_eq dX12_copy_50 (fun c50 => ?_) (fun c50 => ?_)
          · refine E_iload_n dX12_copy_56 rfl ?_
            refine E_if_lt dX12_copy_57 (fun c57 => ?_) (fun c57 => ?_)
            · refine E_ldcw dX12_copy_97 kX12_275 ?_
              refine E_iret dX12_copy_100 rfl rfl ?_
              rw [copyR, is, Option.elim, it, Option.elim, if_neg (fun h => h.elim c23 (i_lt c32)), if_neg (fun h => h c50), if_neg (show ¬ cpD p q m (X.2.1 s) (X.2.1 t) from fun h => h.1.1 c57)] at hq
              exact hq S hX RSG.rf
            · refine E_iload dX12_copy_60 rfl ?_
              refine E_if_lt dX12_copy_62 (fun c62 => ?_) (fun c62 => ?_)
              · refine E_ldcw dX12_copy_97 kX12_275 ?_
                refine E_iret dX12_copy_100 rfl rfl ?_
                rw [copyR, is, Option.elim, it, Option.elim, if_neg (fun h => h.elim c23 (i_lt c32)), if_neg (fun h => h c50), if_neg (show ¬ cpD p q m (X.2.1 s) (X.2.1 t) from fun h => h.2.1 c62)] at hq
                exact hq S hX RSG.rf
              · refine E_iload dX12_copy_65 rfl ?_
                refine E_if_lt dX12_copy_67 (fun c67 => ?_) (fun c67 => ?_)
                · refine E_ldcw dX12_copy_97 kX12_275 ?_
                  refine E_iret dX12_copy_100 rfl rfl ?_
                  rw [copyR, is, Option.elim, it, Option.elim, if_neg (fun h => h.elim c23 (i_lt c32)), if_neg (fun h => h c50), if_neg (show ¬ cpD p q m (X.2.1 s) (X.2.1 t) from fun h => h.1.2.1 c67)] at hq
                  exact hq S hX RSG.rf
                · refine E_iload_n dX12_copy_70 rfl ?_
                  refine E_aload_n dX12_copy_71 rfl ?_
                  refine L_get fX12_57 dX12_copy_72 (by decide) sh_159 rfl ?_
                  refine E_iload_n dX12_copy_75 rfl ?_
                  refine L_iald (j := s) dX12_copy_76 (by decide) sh_175 es hs (by decide) ?_
                  rw [(hX s hs).2.1]
                  refine E_iload dX12_copy_77 rfl ?_
                  refine E_isub dX12_copy_79 ?_
                  refine E_icmp_gt dX12_copy_80 (fun c80 => ?_) (fun c80 => ?_)
                  · refine E_ldcw dX12_copy_97 kX12_275 ?_
                    refine E_iret dX12_copy_100 rfl rfl ?_
                    rw [copyR, is, Option.elim, it, Option.elim, if_neg (fun h => h.elim c23 (i_lt c32)), if_neg (fun h => h c50), if_neg (show ¬ cpD p q m (X.2.1 s) (X.2.1 t) from fun h => absurd ((cpB n1 c57 c67).mpr h.1.2.2) (fun z => z c80))] at hq
                    exact hq S hX RSG.rf
                  · refine E_iload dX12_copy_83 rfl ?_
                    refine E_aload_n dX12_copy_85 rfl ?_
                    refine L_get fX12_57 dX12_copy_86 (by decide) sh_159 rfl ?_
                    refine E_iload_n dX12_copy_89 rfl ?_
                    refine L_iald (j := t) dX12_copy_90 (by decide) sh_175 et ht (by decide) ?_
                    rw [(hX t ht).2.1]
                    refine E_iload dX12_copy_91 rfl ?_
                    refine E_isub dX12_copy_93 ?_
                    refine E_icmp_le dX12_copy_94 (fun c94 => ?_) (fun c94 => ?_)
                    · refine E_ic (v := 0) dX12_copy_101 (by decide) ?_
                      refine E_istore dX12_copy_102 (by decide) ?_
                      have hD : cpD p q m (X.2.1 s) (X.2.1 t) := ⟨⟨c57, c67, (cpB n1 c57 c67).mp c80⟩, c62, c67, (cpB n2 c62 c67).mp (i_lt c94)⟩
                      rw [copyR, is, Option.elim, it, Option.elim, if_neg (fun h => h.elim c23 (i_lt c32)), if_neg (fun h => h c50), if_pos hD] at hq
                      obtain ⟨⟨p0, m0, l1⟩, q0, -, l2⟩ := hD
                      obtain ⟨a, ha, ea⟩ := nI_of p0
                      obtain ⟨b, hb, eb⟩ := nI_of q0
                      obtain ⟨c, hc, ec⟩ := nI_of m0
                      have ea' : p.toNatClampNeg = a := by rw [ea, nI_clamp ha]
                      have eb' : q.toNatClampNeg = b := by rw [eb, nI_clamp hb]
                      have ec' : m.toNatClampNeg = c := by rw [ec, nI_clamp hc]
                      rw [ea', ec'] at l1
                      rw [eb', ec'] at l2
                      rw [ea', eb', ec', ec] at hq
                      rw [es, et, ea, eb, ec]
                      refine E.loc (ls' := [(6, .int 0), (5, .int (nI c)), (4, .int (nI b)), (3, .int (nI t)), (2, .int (nI a)), (1, .int (nI s)), (0, .ref (tb Θ + 159))]) (by exact ⟨rfl, rfl, rfl, rfl, rfl, rfl, rfl, trivial⟩) (l_X12_copy104 hs ht (by omega) (by omega) (ce := X.2.2 s) c S 0 0 rfl (by omega) (hX s hs).2.2 (fun k hk => absurd hk (by omega)) (fun S8 a8 c8 x6 => ?_))
                      refine E_ic (v := 0) dX12_copy_138 (by decide) ?_
                      refine E_istore dX12_copy_139 (by decide) ?_
                      refine E.loc (by exact ⟨rfl, rfl, rfl, rfl, rfl, rfl, rfl, trivial⟩) (l_X12_copy141 hs ht (by omega) (by omega) (ce := X.2.2 s) c S8 0 0 rfl (by omega) a8 (fun k hk => absurd hk (by omega)) (fun S9 a9 b9 c9 => ?_))
                      exact hq S9 (hX.cp ht (by omega) a9 (fun j hj => (b9 j hj).trans (by rw [c8 176 (by decide)])) (fun k h1 h2 => (c9 k h1).trans (c8 k h2))) (fun k h1 h2 h3 h4 => (c9 k h3).trans (c8 k h4))
                    · refine E_ldcw dX12_copy_97 kX12_275 ?_
                      refine E_iret dX12_copy_100 rfl rfl ?_
                      rw [copyR, is, Option.elim, it, Option.elim, if_neg (fun h => h.elim c23 (i_lt c32)), if_neg (fun h => h c50), if_neg (show ¬ cpD p q m (X.2.1 s) (X.2.1 t) from fun h => absurd ((cpB n2 c62 c67).mpr h.2.2.2) (fun z => z (i_nle c94)))] at hq
                      exact hq S hX RSG.rf
          · refine E_ldc dX12_copy_53 kX12_129 ?_
            refine E_iret dX12_copy_55 rfl rfl ?_
            rw [copyR, is, Option.elim, it, Option.elim, if_neg (fun h => h.elim c23 (i_lt c32)), if_pos c50] at hq
            exact hq S hX RSG.rf
        · refine E_ldc dX12_copy_35 kX12_205 ?_
          refine E_iret dX12_copy_37 rfl rfl ?_
          rw [copyR, is, Option.elim, it, Option.elim, if_pos (Or.inr (i_nle c32))] at hq
          exact hq S hX RSG.rf
    · have it := ix_none (by omega) g2
      refine E_if_ne dX12_copy_11 (fun c => absurd rfl c) (fun _ => ?_)
      refine E_ldc dX12_copy_14 kX12_107 ?_
      refine E_iret dX12_copy_16 rfl rfl ?_
      rw [copyR, is, Option.elim, it] at hq
      exact hq S hX RSG.rf
  · have is := ix_none (by omega) g1
    refine E_if_eq dX12_copy_4 (fun _ => ?_) (fun c => absurd (by decide) c)
    refine E_ldc dX12_copy_14 kX12_107 ?_
    refine E_iret dX12_copy_16 rfl rfl ?_
    rw [copyR, is] at hq
    exact hq S hX RSG.rf
end Cy
