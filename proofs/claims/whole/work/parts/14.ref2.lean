/-! the reference: texts worked out, minutes -/
def stkOk (f : Nat → Int32) : List Int32 → Prop
  | [] => True
  | x :: r => f r.length = x ∧ stkOk f r
theorem stk_upd {f : Nat → Int32} {k : Nat} {x : Int32} : ∀ {L : List Int32}, L.length ≤ k → stkOk f L → stkOk (upd f k x) L
  | [], _, _ => trivial
  | y :: r, h, hs => ⟨by rw [pk_un (by simp at h; omega)]; exact hs.1, stk_upd (by simp at h; omega) hs.2⟩
theorem stk_push {f : Nat → Int32} {x : Int32} {L : List Int32} (hs : stkOk f L) : stkOk (upd f L.length x) (x :: L) := ⟨pk_us, stk_upd (Nat.le_refl _) hs⟩
theorem dp_len {fa cd : Nat → Int32} : ∀ (k q : Nat), dpF cd k = some q → (evL fa cd k).length = q
  | 0, q, h => by simp [dpF] at h; subst h; rfl
  | k + 1, q, h => by
    simp only [dpF, Option.bind_eq_some_iff] at h
    obtain ⟨d, h1, h2⟩ := h
    have ih := dp_len (fa := fa) k d h1
    simp only [evL, evS]
    by_cases c1 : 0 ≤ cd k
    · simp only [c1, if_true] at h2 ⊢
      by_cases c2 : cd k < 10003
      · simp only [c2, if_true] at h2
        cases h2
        simp [ih]
      · simp [c2] at h2
    · simp only [c1, if_false] at h2 ⊢
      by_cases c2 : cd k = -10
      · simp only [c2, if_true] at h2 ⊢
        by_cases c3 : 1 ≤ d
        · simp only [c3, if_true] at h2
          cases h2
          cases he : evL fa cd k with
          | nil => rw [he] at ih; simp at ih; omega
          | cons a r => rw [he] at ih; simpa using ih
        · simp [c3] at h2
      · simp only [c2, if_false] at h2 ⊢
        by_cases c3 : 2 ≤ d ∧ -9 ≤ cd k
        · rw [if_pos c3] at h2
          cases h2
          cases he : evL fa cd k with
          | nil => rw [he] at ih; simp at ih; omega
          | cons a r =>
            cases r with
            | nil => rw [he] at ih; simp at ih; omega
            | cons b r => rw [he] at ih; simp at ih ⊢; omega
        · simp [c3] at h2
theorem dp_next {cd : Nat → Int32} {k q q' : Nat} (h : dpF cd k = some q) (h' : dpF cd (k + 1) = some q') : (0 ≤ cd k ∧ cd k < 10003) ∨ (cd k = -10 ∧ 1 ≤ q) ∨ (¬ 0 ≤ cd k ∧ ¬ cd k = -10 ∧ 2 ≤ q ∧ -9 ≤ cd k) := by
  simp only [dpF, h, Option.bind_some] at h'
  by_cases c1 : 0 ≤ cd k
  · simp only [c1, if_true] at h'
    by_cases c2 : cd k < 10003
    · exact Or.inl ⟨c1, c2⟩
    · simp [c2] at h'
  · simp only [c1, if_false] at h'
    by_cases c2 : cd k = -10
    · simp only [c2, if_true] at h'
      by_cases c3 : 1 ≤ q
      · exact Or.inr (Or.inl ⟨c2, c3⟩)
      · simp [c3] at h'
    · simp only [c2, if_false] at h'
      by_cases c3 : 2 ≤ q ∧ -9 ≤ cd k
      · exact Or.inr (Or.inr ⟨c1, c2, c3.1, c3.2⟩)
      · simp [c3] at h'
theorem cdI (t k : Nat) : (124 : Int32) + 96 * nI t + nI k = nI (124 + 96 * t + k) := by
  rw [show (124 : Int32) = nI 124 from rfl, show (96 : Int32) = nI 96 from rfl, pk_mul, nI_add, nI_add]
theorem nmI {c : Int32} (h0 : 10000 ≤ c) (h1 : c < 10003) : ∃ i, i < 3 ∧ c - 10000 = nI i ∧ (c - 10000).toNatClampNeg = i := by
  obtain ⟨j, hj, rfl⟩ := nI_of (x := c) (fun h => absurd (Int32.lt_of_le_of_lt h0 h) (by decide))
  rw [show (10000 : Int32) = nI 10000 from rfl] at h0 ⊢
  rw [show (10003 : Int32) = nI 10003 from rfl] at h1
  have h2 := (nI_leI (by omega) hj).mp h0
  have h3 := (nI_ltI hj (by omega)).mp h1
  refine ⟨j - 10000, by omega, pk_sub h2, ?_⟩
  rw [pk_sub h2, nI_clamp (by omega)]
section Ref2
variable {Θ : Th} {d : Nat} {S : SS} {v : WV}
theorem s_X12_two {Q : Int32 → HP → Prop} {G : HP} {n : Nat} {c a b : Int32} (hq : Q (twoF c a b) G) : C Θ d 0 0 yX12_two cX12_two 3 (some .int) [.int c, .int a, .int b] n G (Qi Q) := by
  refine C_of rfl rfl (Nat.le_of_ble_eq_true rfl) ?_
  refine E_iload_n dX12_two_0 rfl ?_
  refine E_top (fun x1 hx1 => ?_)
  by_cases k1_m8 : x1 = (-8)
  · refine E_tswI (tgt := 117) dX12_two_1 0 (by rw [k1_m8]; decide) (by decide) rfl (by decide) ?_
    refine E_iload_n dX12_two_117 rfl ?_
    refine E_iload_n dX12_two_118 rfl ?_
    refine E_imul dX12_two_119 ?_
    refine E_iret dX12_two_120 rfl rfl ?_
    first | (simpa [twoF, ← hx1, k1_m8] using hq) | (simp_all [twoF])
  by_cases k1_m7 : x1 = (-7)
  · refine E_tswI (tgt := 113) dX12_two_1 1 (by rw [k1_m7]; decide) (by decide) rfl (by decide) ?_
    refine E_iload_n dX12_two_113 rfl ?_
    refine E_iload_n dX12_two_114 rfl ?_
    refine E_isub dX12_two_115 ?_
    refine E_iret dX12_two_116 rfl rfl ?_
    first | (simpa [twoF, ← hx1, k1_m8, k1_m7] using hq) | (simp_all [twoF])
  by_cases k1_m6 : x1 = (-6)
  · refine E_tswI (tgt := 109) dX12_two_1 2 (by rw [k1_m6]; decide) (by decide) rfl (by decide) ?_
    refine E_iload_n dX12_two_109 rfl ?_
    refine E_iload_n dX12_two_110 rfl ?_
    refine E_iadd dX12_two_111 ?_
    refine E_iret dX12_two_112 rfl rfl ?_
    first | (simpa [twoF, ← hx1, k1_m8, k1_m7, k1_m6] using hq) | (simp_all [twoF])
  by_cases k1_m5 : x1 = (-5)
  · refine E_tswI (tgt := 98) dX12_two_1 3 (by rw [k1_m5]; decide) (by decide) rfl (by decide) ?_
    refine E_iload_n dX12_two_98 rfl ?_
    refine E_iload_n dX12_two_99 rfl ?_
    refine E_icmp_le dX12_two_100 (fun c100 => ?_) (fun c100 => ?_)
    · refine E_ic (v := 0) dX12_two_107 (by decide) ?_
      refine E_iret dX12_two_108 rfl rfl ?_
      first | (simpa [twoF, ← hx1, k1_m8, k1_m7, k1_m6, k1_m5, c100, (i_lt c100)] using hq) | (simp_all [twoF])
    · refine E_ic (v := 1) dX12_two_103 (by decide) ?_
      refine E_goto dX12_two_104 ?_
      refine E_iret dX12_two_108 rfl rfl ?_
      first | (simpa [twoF, ← hx1, k1_m8, k1_m7, k1_m6, k1_m5, c100, (i_nle c100)] using hq) | (simp_all [twoF])
  by_cases k1_m4 : x1 = (-4)
  · refine E_tswI (tgt := 87) dX12_two_1 4 (by rw [k1_m4]; decide) (by decide) rfl (by decide) ?_
    refine E_iload_n dX12_two_87 rfl ?_
    refine E_iload_n dX12_two_88 rfl ?_
    refine E_icmp_ne dX12_two_89 (fun c89 => ?_) (fun c89 => ?_)
    · refine E_ic (v := 0) dX12_two_96 (by decide) ?_
      refine E_iret dX12_two_97 rfl rfl ?_
      first | (simpa [twoF, ← hx1, k1_m8, k1_m7, k1_m6, k1_m5, k1_m4, c89] using hq) | (simp_all [twoF])
    · refine E_ic (v := 1) dX12_two_92 (by decide) ?_
      refine E_goto dX12_two_93 ?_
      refine E_iret dX12_two_97 rfl rfl ?_
      first | (simpa [twoF, ← hx1, k1_m8, k1_m7, k1_m6, k1_m5, k1_m4, c89] using hq) | (simp_all [twoF])
  by_cases k1_m3 : x1 = (-3)
  · refine E_tswI (tgt := 76) dX12_two_1 5 (by rw [k1_m3]; decide) (by decide) rfl (by decide) ?_
    refine E_iload_n dX12_two_76 rfl ?_
    refine E_iload_n dX12_two_77 rfl ?_
    refine E_icmp_ge dX12_two_78 (fun c78 => ?_) (fun c78 => ?_)
    · refine E_ic (v := 0) dX12_two_85 (by decide) ?_
      refine E_iret dX12_two_86 rfl rfl ?_
      first | (simpa [twoF, ← hx1, k1_m8, k1_m7, k1_m6, k1_m5, k1_m4, k1_m3, c78, (i_lt c78)] using hq) | (simp_all [twoF])
    · refine E_ic (v := 1) dX12_two_81 (by decide) ?_
      refine E_goto dX12_two_82 ?_
      refine E_iret dX12_two_86 rfl rfl ?_
      first | (simpa [twoF, ← hx1, k1_m8, k1_m7, k1_m6, k1_m5, k1_m4, k1_m3, c78, (i_nle c78)] using hq) | (simp_all [twoF])
  by_cases k1_m2 : x1 = (-2)
  · refine E_tswI (tgt := 62) dX12_two_1 6 (by rw [k1_m2]; decide) (by decide) rfl (by decide) ?_
    refine E_iload_n dX12_two_62 rfl ?_
    refine E_if_eq dX12_two_63 (fun c63 => ?_) (fun c63 => ?_)
    · refine E_ic (v := 0) dX12_two_74 (by decide) ?_
      refine E_iret dX12_two_75 rfl rfl ?_
      first | (simpa [twoF, ← hx1, k1_m8, k1_m7, k1_m6, k1_m5, k1_m4, k1_m3, k1_m2, c63] using hq) | (simp_all [twoF])
    · refine E_iload_n dX12_two_66 rfl ?_
      refine E_if_eq dX12_two_67 (fun c67 => ?_) (fun c67 => ?_)
      · refine E_ic (v := 0) dX12_two_74 (by decide) ?_
        refine E_iret dX12_two_75 rfl rfl ?_
        first | (simpa [twoF, ← hx1, k1_m8, k1_m7, k1_m6, k1_m5, k1_m4, k1_m3, k1_m2, c63, c67] using hq) | (simp_all [twoF])
      · refine E_ic (v := 1) dX12_two_70 (by decide) ?_
        refine E_goto dX12_two_71 ?_
        refine E_iret dX12_two_75 rfl rfl ?_
        first | (simpa [twoF, ← hx1, k1_m8, k1_m7, k1_m6, k1_m5, k1_m4, k1_m3, k1_m2, c63, c67] using hq) | (simp_all [twoF])
  by_cases k1_m1 : x1 = (-1)
  · refine E_tswI (tgt := 48) dX12_two_1 7 (by rw [k1_m1]; decide) (by decide) rfl (by decide) ?_
    refine E_iload_n dX12_two_48 rfl ?_
    refine E_if_ne dX12_two_49 (fun c49 => ?_) (fun c49 => ?_)
    · refine E_ic (v := 1) dX12_two_56 (by decide) ?_
      refine E_goto dX12_two_57 ?_
      refine E_iret dX12_two_61 rfl rfl ?_
      first | (simpa [twoF, ← hx1, k1_m8, k1_m7, k1_m6, k1_m5, k1_m4, k1_m3, k1_m2, k1_m1, c49] using hq) | (simp_all [twoF])
    · refine E_iload_n dX12_two_52 rfl ?_
      refine E_if_eq dX12_two_53 (fun c53 => ?_) (fun c53 => ?_)
      · refine E_ic (v := 0) dX12_two_60 (by decide) ?_
        refine E_iret dX12_two_61 rfl rfl ?_
        first | (simpa [twoF, ← hx1, k1_m8, k1_m7, k1_m6, k1_m5, k1_m4, k1_m3, k1_m2, k1_m1, c49, c53] using hq) | (simp_all [twoF])
      · refine E_ic (v := 1) dX12_two_56 (by decide) ?_
        refine E_goto dX12_two_57 ?_
        refine E_iret dX12_two_61 rfl rfl ?_
        first | (simpa [twoF, ← hx1, k1_m8, k1_m7, k1_m6, k1_m5, k1_m4, k1_m3, k1_m2, k1_m1, c49, c53] using hq) | (simp_all [twoF])
  refine E_tswO (tgt := 121) dX12_two_1 (by have := ne_toInt (k := (-8)) (by decide) k1_m8; have := ne_toInt (k := (-7)) (by decide) k1_m7; have := ne_toInt (k := (-6)) (by decide) k1_m6; have := ne_toInt (k := (-5)) (by decide) k1_m5; have := ne_toInt (k := (-4)) (by decide) k1_m4; have := ne_toInt (k := (-3)) (by decide) k1_m3; have := ne_toInt (k := (-2)) (by decide) k1_m2; have := ne_toInt (k := (-1)) (by decide) k1_m1; omega) (by decide) ?_
  refine E_iload_n dX12_two_121 rfl ?_
  refine E_if_ne dX12_two_122 (fun c122 => ?_) (fun c122 => ?_)
  · refine E_iload_n dX12_two_129 rfl ?_
    refine E_iload_n dX12_two_130 rfl ?_
    refine E_idiv dX12_two_131 c122 ?_
    refine E_iret dX12_two_132 rfl rfl ?_
    first | (simpa [twoF, ← hx1, k1_m8, k1_m7, k1_m6, k1_m5, k1_m4, k1_m3, k1_m2, k1_m1, c122] using hq) | (simp_all [twoF])
  · refine E_ic (v := 0) dX12_two_125 (by decide) ?_
    refine E_goto dX12_two_126 ?_
    refine E_iret dX12_two_132 rfl rfl ?_
    first | (simpa [twoF, ← hx1, k1_m8, k1_m7, k1_m6, k1_m5, k1_m4, k1_m3, k1_m2, k1_m1, c122] using hq) | (simp_all [twoF])
end Ref2
