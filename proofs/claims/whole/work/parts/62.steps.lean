/-! each step keeps what stands of a state -/
theorem gF.up : ∀ {W : List Int32}, gF W false → gF W true
  | [], _ => trivial
  | w :: W, h => by
    unfold gF at h ⊢
    by_cases c : w = -11
    · rw [if_pos c] at h
      rw [if_neg (by rw [c]; decide), if_pos c]
      exact h
    · rw [if_neg c] at h
      rw [if_neg h.1, if_neg c]
      exact h.2
theorem gF.t11 {W : List Int32} : gF (-11 :: W) true = gF W true := by
  rw [gF, if_neg (by decide), if_pos rfl]
theorem gF.f11 {W : List Int32} : gF (-11 :: W) false = gF W true := by
  rw [gF, if_pos rfl]
theorem gF.t10 {W : List Int32} : gF (-10 :: W) true = gF W true := by
  rw [gF, if_pos rfl]
theorem gF.op {w : Int32} {W : List Int32} (h1 : w ≠ -10) (h2 : w ≠ -11) : gF (w :: W) true = gF W false := by
  rw [gF, if_neg h1, if_neg h2]
theorem rk_10 : rkF (-10) = 6 := by decide +kernel
theorem stl_nn {r : Nat} : ∀ (W C : List Int32), nnF (stl r W C).1 ≤ nnF W
  | [], C => Nat.le_refl _
  | w :: W, C => by
    rw [stl]
    split
    · exact Nat.le_refl _
    · have := stl_nn (r := r) W (w :: C)
      rw [nnF]
      omega
/-- behind settle 6 no not waits on top -/
theorem stl_6 : ∀ (W C : List Int32), wOk W → gF W true → gF (stl 6 W C).1 false
  | [], C, _, _ => trivial
  | w :: W, C, hw, h => by
    rw [stl]
    by_cases c : w = -11 ∨ rkF w < 6
    · rw [if_pos c]
      rcases c with c | c
      · subst c
        rw [gF.f11]
        rw [gF.t11] at h
        exact h
      · by_cases c11 : w = -11
        · subst c11
          rw [gF.f11]
          rw [gF.t11] at h
          exact h
        · have n10 : w ≠ -10 := fun z => by rw [z, rk_10] at c; omega
          rw [gF.op n10 c11] at h
          rw [gF, if_neg c11]
          exact ⟨n10, h⟩
    · rw [if_neg c]
      have hw' : wOk W := fun x hx => hw x (List.mem_cons_of_mem _ hx)
      have n11 : w ≠ -11 := fun z => c (Or.inl z)
      refine stl_6 W (w :: C) hw' ?_
      by_cases n10 : w = -10
      · rw [n10, gF.t10] at h
        exact h
      · rw [gF.op n10 n11] at h
        exact h.up
/-- in a segment without a not, settling takes none away -/
theorem stl_f {r : Nat} : ∀ (W C : List Int32), gF W false → gF (stl r W C).1 false ∧ nnF (stl r W C).1 = nnF W
  | [], C, _ => ⟨trivial, rfl⟩
  | w :: W, C, h => by
    rw [stl]
    by_cases c : w = -11 ∨ rkF w < r
    · rw [if_pos c]
      exact ⟨h, rfl⟩
    · rw [if_neg c]
      have n11 : w ≠ -11 := fun z => c (Or.inl z)
      rw [gF, if_neg n11] at h
      obtain ⟨a, b⟩ := stl_f (r := r) W (w :: C) h.2
      exact ⟨a, by rw [b, nnF, if_neg h.1]; rfl⟩
theorem nm_ix {key : Nat} {x : Int32} (h : ¬ nmR key x < 0) : ∃ j, nmR key x = nI j ∧ j < 3 ∧ (¬ key = 0 → j < 2) := by
  unfold nmR at h ⊢
  by_cases k0 : key = 0
  · rw [if_pos k0] at h ⊢
    split
    · exact ⟨0, rfl, by omega, fun z => absurd k0 z⟩
    · split
      · exact ⟨1, rfl, by omega, fun z => absurd k0 z⟩
      · split
        · exact ⟨2, rfl, by omega, fun z => absurd k0 z⟩
        · rename_i h1 h2 h3
          rw [if_neg h1, if_neg h2, if_neg h3] at h
          exact absurd (by decide) h
  · rw [if_neg k0] at h ⊢
    by_cases k1 : key = 1
    · rw [if_pos k1] at h ⊢
      split
      · exact ⟨0, rfl, by omega, fun _ => by omega⟩
      · split
        · exact ⟨1, rfl, by omega, fun _ => by omega⟩
        · rename_i h1 h2
          rw [if_neg h1, if_neg h2] at h
          exact absurd (by decide) h
    · rw [if_neg k1] at h ⊢
      split
      · exact ⟨0, rfl, by omega, fun _ => by omega⟩
      · split
        · exact ⟨1, rfl, by omega, fun _ => by omega⟩
        · rename_i h1 h2
          rw [if_neg h1, if_neg h2] at h
          exact absurd (by decide) h
/-- a number's or a name's code -/
theorem pa_ok {b : Nat → Int32} {n key s e : Nat} {t c : Int32} (hb : byOk b n) (hk : TkO b n s e t) (h : paF b key s e t = some c) : ∃ q, c = nI q ∧ q < 10003 ∧ (¬ key = 0 → q < 10002) ∧ ((t = 257 ∧ e - s ≤ 4 ∧ c = nuF b s (e - s) ∧ q < 10000) ∨ (t = 256 ∧ e = s + 1 ∧ ∃ j, nmR key (b s) = nI j ∧ j < 3 ∧ q = 10000 + j)) := by
  unfold paF at h
  by_cases h7 : t = 257
  · rw [if_pos h7] at h
    by_cases h4 : e - s ≤ 4
    · rw [if_pos h4] at h
      cases h
      obtain ⟨q, hq, eq⟩ := nu_ix (b := b) (s := s) (e - s) h4 (fun k hk' => by
        have hh := hk.2.1
        obtain ⟨r, hr, er⟩ := hb (s + k) (by omega)
        exact ⟨r, hr, er, hk.2.2.2.2.2.1 h7 (s + k) (by omega) (by omega)⟩)
      have hp : 10 ^ (e - s) ≤ 10000 := Nat.le_trans (Nat.pow_le_pow_right (by decide) h4) (by decide)
      exact ⟨q, eq, by omega, fun _ => by omega, Or.inl ⟨h7, h4, rfl, by omega⟩⟩
    · rw [if_neg h4] at h
      cases h
  · rw [if_neg h7] at h
    by_cases h6 : t = 256
    · rw [if_pos h6] at h
      by_cases hn : e - s = 1 ∧ ¬ nmR key (b s) < 0
      · rw [if_pos hn] at h
        cases h
        obtain ⟨j, ej, hj, hj2⟩ := nm_ix hn.2
        refine ⟨10000 + j, ?_, by omega, fun z => by have := hj2 z; omega, Or.inr ⟨h6, by omega, j, ej, hj, rfl⟩⟩
        rw [ej]
        exact nI_add 10000 j
      · rw [if_neg hn] at h
        cases h
    · rw [if_neg h6] at h
      cases h
theorem sg_ix {t : Int32} (h : ¬ sgF t = 0) : -9 ≤ sgF t ∧ sgF t < 0 := by
  unfold sgF at h ⊢
  repeat' split
  all_goals first | decide | skip
  all_goals (exfalso; apply h; simp_all)
theorem sg_b {t : Int32} (h : ¬ sgF t = 0) : sgF t ≠ -10 ∧ sgF t ≠ -11 := by
  obtain ⟨a, -⟩ := sg_ix h
  exact ⟨fun z => by rw [z] at a; exact absurd a (by decide), fun z => by rw [z] at a; exact absurd a (by decide)⟩
section Ps
variable {b : Nat → Int32} {n key par nots at_ s e : Nat} {W C : List Int32} {te : Nat → Bool} {t : Int32}
theorem PIn_not (hb : byOk b n) (h : PIn b n key (true, par, nots, W, C, at_, te, s, e, t)) (ht : ¬ t = 258) (hn : nots < 8) : PIn b n key (true, par, nnF (-10 :: W), -10 :: W, C, at_, te, nxS b n e, nxE b n e, nxK b n e t) := by
  obtain ⟨h1, h2, h3, h4, h5, h6, h7, h8, h9, h10, h11, h12, h13, h14⟩ := h
  have hs := nxS_le (b := b) h1.2.1
  have hlt := h1.2.2.2.1 ht
  refine ⟨nx_ok hb h1.2.1, h2, by simp only [List.length_cons]; omega, by omega, by rw [h5]; rfl, h6, rfl, by rw [nnF, if_pos rfl]; omega, fun w hw => ?_, h10, h11, h12, h13, by rw [gF.t10]; exact h14⟩
  rcases List.mem_cons.mp hw with rfl | hw
  · decide
  · exact h9 w hw
theorem PIn_open (hb : byOk b n) (h : PIn b n key (true, par, nots, W, C, at_, te, s, e, t)) (ht : ¬ t = 258) (hn : par < 8) : PIn b n key (true, par + 1, nnF (-11 :: W), -11 :: W, C, at_, teU te (par + 1) false, nxS b n e, nxE b n e, nxK b n e t) := by
  obtain ⟨h1, h2, h3, h4, h5, h6, h7, h8, h9, h10, h11, h12, h13, h14⟩ := h
  have hs := nxS_le (b := b) h1.2.1
  have hlt := h1.2.2.2.1 ht
  refine ⟨nx_ok hb h1.2.1, h2, by simp only [List.length_cons]; omega, by omega, by rw [h5, opF, if_pos rfl], by omega, rfl, by rw [nnF, if_neg (by decide)]; omega, fun w hw => ?_, h10, h11, h12, h13, by rw [gF.t11]; exact h14⟩
  rcases List.mem_cons.mp hw with rfl | hw
  · decide
  · exact h9 w hw
theorem PIn_part {c : Int32} (hb : byOk b n) (h : PIn b n key (true, par, nots, W, C, at_, te, s, e, t)) (hc : paF b key s e t = some c) : PIn b n key (false, par, nnF (stl 6 W (c :: C)).1, (stl 6 W (c :: C)).1, (stl 6 W (c :: C)).2, at_ + 1, te, nxS b n e, nxE b n e, nxK b n e t) := by
  obtain ⟨h1, h2, h3, h4, h5, h6, h7, h8, h9, h10, h11, h12, h13, h14⟩ := h
  obtain ⟨q, eq, hq, hq2, hor⟩ := pa_ok hb h1 hc
  have ht : ¬ t = 258 := by
    rcases hor with ⟨z, -⟩ | ⟨z, -⟩ <;> rw [z] <;> decide
  have hs := nxS_le (b := b) h1.2.1
  have hlt := h1.2.2.2.1 ht
  have hl := stl_len (r := 6) W (c :: C)
  have hnn := stl_nn (r := 6) W (c :: C)
  have hc0 : 0 ≤ c := by rw [eq]; exact nI_pos' (by omega)
  have hc3 : c < 10003 := by rw [eq]; exact nI_lt (b := 10003) hq (by omega)
  have hcO : cOk key (c :: C) := fun x hx => by
    rcases List.mem_cons.mp hx with rfl | hx
    · exact ⟨Int32.le_trans (by decide) hc0, fun _ => hc3, fun z => by rw [eq]; exact nI_lt (b := 10002) (hq2 z) (by omega)⟩
    · exact h10 x hx
  simp only [if_pos] at h4 h11 h12
  have hdp : dpL (c :: C) = some (biF W + 1) := by
    rw [dpL, h11]
    show dpS c _ = _
    rw [dpS, if_pos hc0, if_pos hc3]
  have h13' := okL.mono (show at_ ≤ at_ + 1 by omega) h13
  obtain ⟨d1, d2, d3⟩ := stl_dp (r := 6) (m := at_ + 1) W (c :: C) h9 hdp (by omega) ⟨h13', _, hdp, by omega⟩
  simp only [List.length_cons] at hl
  exact ⟨nx_ok hb h1.2.1, h2, by omega, by simp only [Bool.false_eq_true, if_false]; omega, by rw [h5, stl_op], h6, rfl, by omega, stl_w W _ h9, stl_c W _ h9 hcO, d1, d2, d3, stl_6 W _ h9 h14⟩
theorem PIn_close (hb : byOk b n) (h : PIn b n key (false, par, nots, W, C, at_, te, s, e, t)) (ht : ¬ t = 258) (hp : 0 < par) : PIn b n key (false, par - 1, nnF (stl 6 (stl 0 W C).1.tail (stl 0 W C).2).1, (stl 6 (stl 0 W C).1.tail (stl 0 W C).2).1, (stl 6 (stl 0 W C).1.tail (stl 0 W C).2).2, at_, te, nxS b n e, nxE b n e, nxK b n e t) := by
  obtain ⟨h1, h2, h3, h4, h5, h6, h7, h8, h9, h10, h11, h12, h13, h14⟩ := h
  have hs := nxS_le (b := b) h1.2.1
  have hlt := h1.2.2.2.1 ht
  obtain ⟨W2, e1, e2⟩ := stl_open (C := C) W (by omega) C
  have hl := stl_len (r := 0) W C
  have hw1 := stl_w (r := 0) W C h9
  have hc1 := stl_c (r := 0) W C h9 h10
  have hg1 := stl_f (r := 0) W C h14
  have hn1 := stl_nn (r := 0) W C
  obtain ⟨d1, d2, d3⟩ := stl_dp (r := 0) (m := at_) W C h9 h11 h12 h13
  rw [e1] at hl hw1 hg1 hn1 d1 d2
  rw [e1]
  generalize (stl 0 W C).2 = C1 at hl hc1 d1 d3 ⊢
  simp only [List.tail_cons]
  have hb2 : biF (-11 :: W2) = biF W2 := rfl
  rw [hb2] at d1 d2
  have hw2 : wOk W2 := fun x hx => hw1 x (List.mem_cons_of_mem _ hx)
  obtain ⟨f1, f2, f3⟩ := stl_dp (r := 6) (m := at_) W2 C1 hw2 d1 d2 d3
  have hl2 := stl_len (r := 6) W2 C1
  have hn2 := stl_nn (r := 6) W2 C1
  have hn0 : nnF (-11 :: W2) = nnF W2 := rfl
  rw [hn0] at hn1
  simp only [List.length_cons] at hl
  rw [gF.f11] at hg1
  simp only [Bool.false_eq_true, if_false] at h4
  exact ⟨nx_ok hb h1.2.1, h2, by omega, by simp only [Bool.false_eq_true, if_false]; omega, by rw [stl_op]; omega, by omega, rfl, by omega, stl_w W2 _ hw2, stl_c W2 _ hw2 hc1, f1, f2, f3, stl_6 W2 _ hw2 hg1.1⟩
theorem PIn_op {te' : Nat → Bool} (hb : byOk b n) (h : PIn b n key (false, par, nots, W, C, at_, te, s, e, t)) (ht : ¬ t = 258) (hg : ¬ sgF t = 0) : PIn b n key (true, par, nots, sgF t :: (stl (rkF (sgF t)) W C).1, (stl (rkF (sgF t)) W C).2, at_, te', nxS b n e, nxE b n e, nxK b n e t) := by
  obtain ⟨h1, h2, h3, h4, h5, h6, h7, h8, h9, h10, h11, h12, h13, h14⟩ := h
  have hs := nxS_le (b := b) h1.2.1
  have hlt := h1.2.2.2.1 ht
  obtain ⟨g1, g2⟩ := sg_ix hg
  obtain ⟨g10, g11⟩ := sg_b hg
  have hl := stl_len (r := rkF (sgF t)) W C
  obtain ⟨f1, f2⟩ := stl_f (r := rkF (sgF t)) W C h14
  obtain ⟨d1, d2, d3⟩ := stl_dp (r := rkF (sgF t)) (m := at_) W C h9 h11 h12 h13
  have hw1 := stl_w (r := rkF (sgF t)) W C h9
  have hbi : biF (sgF t :: (stl (rkF (sgF t)) W C).1) = biF (stl (rkF (sgF t)) W C).1 + 1 := by rw [biF, if_neg (fun z => z.elim g10 g11)]
  simp only [Bool.false_eq_true, if_false] at h4
  refine ⟨nx_ok hb h1.2.1, h2, by simp only [List.length_cons]; omega, by simp only [if_pos]; omega, by rw [opF, if_neg g11, stl_op]; exact h5, h6, by rw [nnF, if_neg g10, f2]; exact h7, h8, fun w hw => ?_, stl_c W C h9 h10, by rw [hbi]; simp only [if_pos]; exact d1, by rw [hbi]; simp only [if_pos]; exact d2, d3, by rw [gF.op g10 g11]; exact f1⟩
  rcases List.mem_cons.mp hw with rfl | hw
  · exact ⟨Int32.le_trans (by decide) g1, g2⟩
  · exact hw1 w hw
end Ps
