/-! the class: one world as another -/
def BP (S0 S : SS) (w u : Nat) (js : List Nat) (n t l : Nat) : Prop := (∀ j ∈ js, S w j = S0 u j) ∧ (∀ p, p < n → (∀ j, j < 3 → S (w + 4 + 2 * p) j = S0 (u + 4 + 2 * p) j) ∧ ∀ j, j < 6 → S (w + 4 + 2 * p + 1) j = S0 (u + 4 + 2 * p + 1) j) ∧ (∀ j, j < t → S (w + 2) j = S0 (u + 2) j) ∧ (∀ j, j < l → S (w + 3) j = S0 (u + 3) j) ∧ ∀ k, (k < w ∨ w + 22 ≤ k) → S k = S0 k
theorem W_dis {w u : Nat} (hw : isW w) (hu : isW u) (hne : u ≠ w) : u + 22 ≤ w ∨ w + 22 ≤ u := by
  rcases hw with rfl | rfl | rfl <;> rcases hu with rfl | rfl | rfl <;> omega
theorem BP.put {S0 S : SS} {w u n t l j : Nat} {js : List Nat} (h : BP S0 S w u js n t l) (hw : isW w) (hu : isW u) (hne : u ≠ w) : BP S0 (wr S w j (S u j)) w u (j :: js) n t l := by
  have hd := W_dis hw hu hne
  obtain ⟨h1, h2, h3, h4, h5⟩ := h
  refine ⟨fun j' hj => ?_, fun p hp => ?_, fun i hi => ?_, fun i hi => ?_, fun k hk => ?_⟩
  · rw [wr_at]
    by_cases e : j' = j
    · subst e
      rw [pk_us, h5 u (by omega)]
    · rw [pk_un e]
      exact h1 j' (by rcases List.mem_cons.mp hj with h | h; · exact absurd h e
                      · exact h)
  · obtain ⟨a, b⟩ := h2 p hp
    exact ⟨fun i hi => by rw [wr_ne (by omega)]; exact a i hi, fun i hi => by rw [wr_ne (by omega)]; exact b i hi⟩
  · rw [wr_ne (by omega)]; exact h3 i hi
  · rw [wr_ne (by omega)]; exact h4 i hi
  · rw [wr_ne (by omega)]; exact h5 k hk
theorem BP.tal {S0 S : SS} {w u n l : Nat} {js : List Nat} (h : BP S0 S w u js n 0 l) (hw : isW w) (hu : isW u) (hne : u ≠ w) (hn : n ≤ 9) : BP S0 (va_up S (w + 2) (va_cpy (S (u + 2)) (S (w + 2)) 0 0 4)) w u js n 4 l := by
  have hd := W_dis hw hu hne
  obtain ⟨h1, h2, h3, h4, h5⟩ := h
  refine ⟨fun j' hj => ?_, fun p hp => ?_, fun i hi => ?_, fun i hi => ?_, fun k hk => ?_⟩
  · rw [vu_ne (by omega)]; exact h1 j' hj
  · obtain ⟨a, b⟩ := h2 p hp
    exact ⟨fun i hi => by rw [vu_ne (by omega)]; exact a i hi, fun i hi => by rw [vu_ne (by omega)]; exact b i hi⟩
  · rw [vu_at, cpy_at hi, h5 (u + 2) (by omega)]
  · rw [vu_ne (by omega)]; exact h4 i hi
  · rw [vu_ne (by omega)]; exact h5 k hk
theorem BP.law {S0 S : SS} {w u n t l : Nat} {js : List Nat} (h : BP S0 S w u js n t l) (hw : isW w) (hu : isW u) (hne : u ≠ w) : BP S0 (wr S (w + 3) l (S (u + 3) l)) w u js n t (l + 1) := by
  have hd := W_dis hw hu hne
  obtain ⟨h1, h2, h3, h4, h5⟩ := h
  refine ⟨fun j' hj => ?_, fun p hp => ?_, fun i hi => ?_, fun i hi => ?_, fun k hk => ?_⟩
  · rw [wr_ne (by omega)]; exact h1 j' hj
  · obtain ⟨a, b⟩ := h2 p hp
    exact ⟨fun i hi => by rw [wr_ne (by omega)]; exact a i hi, fun i hi => by rw [wr_ne (by omega)]; exact b i hi⟩
  · rw [wr_ne (by omega)]; exact h3 i hi
  · rw [wr_at]
    by_cases e : i = l
    · subst e
      rw [pk_us, h5 (u + 3) (by omega)]
    · rw [pk_un e]
      exact h4 i (by omega)
  · rw [wr_ne (by omega)]; exact h5 k hk
theorem BP.pas {S0 S S' : SS} {w u n : Nat} {js : List Nat} (h : BP S0 S w u js n 0 0) (hw : isW w) (hu : isW u) (hne : u ≠ w) (hn : n < 9) (p1 : ∀ j, j < 3 → S' (w + 4 + 2 * n) j = S (u + 4 + 2 * n) j) (p2 : ∀ j, j < 6 → S' (w + 4 + 2 * n + 1) j = S (u + 4 + 2 * n + 1) j) (p3 : ∀ k, k ≠ w + 4 + 2 * n → k ≠ w + 4 + 2 * n + 1 → S' k = S k) : BP S0 S' w u js (n + 1) 0 0 := by
  have hd := W_dis hw hu hne
  obtain ⟨h1, h2, h3, h4, h5⟩ := h
  refine ⟨fun j' hj => ?_, fun p hp => ?_, fun i hi => absurd hi (by omega), fun i hi => absurd hi (by omega), fun k hk => ?_⟩
  · rw [p3 _ (by omega) (by omega)]; exact h1 j' hj
  · by_cases e : p = n
    · subst e
      exact ⟨fun i hi => by rw [p1 i hi, h5 _ (by omega)], fun i hi => by rw [p2 i hi, h5 _ (by omega)]⟩
    · obtain ⟨a, b⟩ := h2 p (by omega)
      exact ⟨fun i hi => by rw [p3 _ (by omega) (by omega)]; exact a i hi, fun i hi => by rw [p3 _ (by omega) (by omega)]; exact b i hi⟩
  · rw [p3 _ (by omega) (by omega)]; exact h5 k hk
theorem BP.done {S0 S : SS} {w u m : Nat} {v : WV} (h : BP S0 S w u [13, 11, 10, 8, 7, 6, 5, 4, 3, 2, 1] m 4 3) (hR : WRep S0 u v) (hmm : mN v = m) : WRep S w v ∧ WF w S0 S := by
  obtain ⟨h1, h2, h3, h4, h5⟩ := h
  obtain ⟨r1, r2, r3, r4⟩ := hR
  refine ⟨⟨fun q hq => ?_, fun j hj => (h3 j hj).trans (r2 j hj), fun c hc => (h4 c hc).trans (r3 c hc), fun p hp => ?_⟩, fun k hk _ => h5 k hk⟩
  · rw [h1 q.1 ((by decide : ∀ q ∈ wmL, q.1 ∈ [13, 11, 10, 8, 7, 6, 5, 4, 3, 2, 1]) q hq)]
    exact r1 q hq
  · obtain ⟨a, b⟩ := h2 p (by omega)
    obtain ⟨b1, b2, b3, b4⟩ := r4 p hp
    exact ⟨(a 0 (by omega)).trans b1, (a 1 (by omega)).trans b2, (a 2 (by omega)).trans b3, fun j hj => (b j hj).trans (b4 j hj)⟩
theorem tr_set {Θ : Th} {f : Nat → Int32} {j : Nat} {x : Int32} {r : Option Nat} (h : tref Θ x = r) : va_up (fun i => tref Θ (f i)) j r = fun i => tref Θ (upd f j x i) := by
  funext i
  by_cases e : i = j
  · subst e
    rw [pk_us, h]
    simp [va_up]
  · rw [pk_un e]
    simp [va_up, e]
section Wb
variable {Θ : Th} {d mc ms : Nat} {y : MethodName} {cc : ByteArray} {nL : Nat} {ret : Option FieldType} {cl sl : Nat} {S0 S : SS} {pc pc1 pc2 : Nat} {ls : LV} {st : List Value} {Q : QT} {w u : Nat}
theorem W_cp {j cp n t l : Nat} {js : List Nat} (hB : BP S0 S w u js n t l) (hw : isW w) (hu : isW u) (hne : u ≠ w) (hj : j ∈ [1, 2, 3, 4, 5, 6, 7, 8, 10, 11, 13]) (hF : FA y.cls cp 10 j .int false) (hd1 : Dc cc pc (.getfield cp) 3 pc1) (hd2 : Dc cc pc1 (.putfield cp) 3 pc2) (K : ∀ S', BP S0 S' w u (j :: js) n t l → E Θ d mc ms y cc nL ret cl sl 183 (lay Θ S') pc2 ls st Q) : E Θ d mc ms y cc nL ret cl sl 183 (lay Θ S) pc ls (.ref (tb Θ + u) :: .ref (tb Θ + w) :: st) Q := by
  refine L_get (j := j) (v := .int (S u j)) hF hd1 (by have := hu.lt; omega) (sh_W hu) ?_ (L_puti (j := j) hF hd2 (by have := hw.lt; omega) (sh_W hw) ?_ ?_ (K _ (hB.put hw hu hne)))
  all_goals simp only [List.mem_cons, List.not_mem_nil, or_false] at hj
  all_goals rcases hj with rfl | rfl | rfl | rfl | rfl | rfl | rfl | rfl | rfl | rfl | rfl
  all_goals first | rfl | exact Nat.le_of_ble_eq_true rfl
end Wb
section Wc
variable {Θ : Th} {d : Nat} {S0 S : SS} {v : WV} {w u : Nat}
theorem s_dis (hw : isW w) (hu : isW u) (hne : u ≠ w) {i : Nat} (hi : i < 9) : w + 4 + 2 * i ≠ u + 4 + 2 * i ∧ w + 4 + 2 * i ≠ u + 4 + 2 * i + 1 ∧ u + 4 + 2 * i ≠ w + 4 + 2 * i + 1 := by
  have := W_dis hw hu hne
  omega
theorem l_X10_becomeAs10 {Q : HP → Prop} (hw : isW w) (hu : isW u) (hne : u ≠ w) {m : Nat} (hm9 : m ≤ 9) (hu1 : S0 u 1 = nI m) : ∀ (f : Nat) (S : SS) (x2 : Int32) (i : Nat), x2 = nI i → i + f = m → BP S0 S w u [1] i 0 0 → (∀ S', BP S0 S' w u [1] m 0 0 → ∀ x, E Θ (d + 2) 0 0 yX10_becomeAs cX10_becomeAs 3 none 0 0 183 (lay Θ S') 48 [(2, .int x), (1, .ref (tb Θ + u)), (0, .ref (tb Θ + w))] [] (Qv Q)) → E Θ (d + 2) 0 0 yX10_becomeAs cX10_becomeAs 3 none 0 0 183 (lay Θ S) 10 [(2, .int x2), (1, .ref (tb Θ + u)), (0, .ref (tb Θ + w))] [] (Qv Q) := by
  intro f
  induction f with
  | zero =>
    intro S x2 i hx2 hi hB K
    have hm1 : S w 1 = nI m := (hB.1 1 (by decide)).trans hu1
    refine E_iload_n dX10_becomeAs_10 rfl ?_
    refine E_aload_n dX10_becomeAs_11 rfl ?_
    refine L_get fX10_40 dX10_becomeAs_12 (by have := (hw).lt; omega) (sh_W hw) rfl ?_
    rw [hm1]
    refine E_icmp_ge dX10_becomeAs_15 (fun _ => ?_) (fun c => absurd (by rw [hx2]; exact nI_le (by omega) (by omega)) c)
    rw [show i = m by omega] at hB
    exact K S hB x2
  | succ f ih =>
    intro S x2 i hx2 hi hB K
    have hm1 : S w 1 = nI m := (hB.1 1 (by decide)).trans hu1
    have hds := s_dis hw hu hne (i := i) (by omega)
    refine E_iload_n dX10_becomeAs_10 rfl ?_
    refine E_aload_n dX10_becomeAs_11 rfl ?_
    refine L_get fX10_40 dX10_becomeAs_12 (by have := (hw).lt; omega) (sh_W hw) rfl ?_
    rw [hm1]
    refine E_icmp_ge dX10_becomeAs_15 (fun c => absurd c (fun c => absurd ((nI_leI (by omega) (by omega)).mp (hx2 ▸ c)) (by omega))) (fun _ => ?_)
    refine E_iload_n dX10_becomeAs_18 rfl ?_
    refine E_aload_n dX10_becomeAs_19 rfl ?_
    refine L_get fX10_11 dX10_becomeAs_20 (by have := (hw).lt; omega) (sh_W hw) rfl ?_
    refine L_alenR dX10_becomeAs_23 (by have := (hw).lt; omega) (sh_Wc hw) rfl ?_
    refine E_icmp_ge dX10_becomeAs_24 (fun c => absurd c (fun c => absurd ((nI_leI (by omega) (by omega)).mp (hx2 ▸ c)) (by omega))) (fun _ => ?_)
    refine E_aload_n dX10_becomeAs_27 rfl ?_
    refine L_get fX10_11 dX10_becomeAs_28 (by have := (hw).lt; omega) (sh_W hw) rfl ?_
    refine E_iload_n dX10_becomeAs_31 rfl ?_
    refine L_aald (j := i) dX10_becomeAs_32 (by have := (hw).lt; omega) (sh_Wc hw) rfl hx2 (by omega) (by decide) (if_pos (by omega)) ?_
    refine E_aload_n dX10_becomeAs_33 rfl ?_
    refine L_get fX10_11 dX10_becomeAs_34 (by have := (hu).lt; omega) (sh_W hu) rfl ?_
    refine E_iload_n dX10_becomeAs_37 rfl ?_
    refine L_aald (j := i) dX10_becomeAs_38 (by have := (hu).lt; omega) (sh_Wc hu) rfl hx2 (by omega) (by decide) (if_pos (by omega)) ?_
    refine E_V1v vX10_43_4 dX10_becomeAs_39 (Nat.le_of_ble_eq_true rfl) (by have := ((hw.p (i := i) (by omega))).lt; omega) ((sh_P (hw.p (i := i) (by omega))) _) (s_X4_becomeAs (hw.p (i := i) (by omega)) (hu.p (i := i) (by omega)) hds.1 hds.2.1 hds.2.2 (fun S9 p1 p2 p3 => ?_))
    refine E_iinc (v := 1) dX10_becomeAs_42 rfl (by decide) (by decide) ?_
    refine E_goto dX10_becomeAs_45 ?_
    exact E.loc (by exact ⟨rfl, rfl, rfl, trivial⟩) (ih S9 _ (i + 1) (by rw [hx2, nI_1]) (by omega) (hB.pas hw hu hne (by omega) p1 p2 p3) K)
theorem l_X10_becomeAs136 {Q : HP → Prop} (hw : isW w) (hu : isW u) (hne : u ≠ w) {m : Nat} (hm9 : m ≤ 9) (hl : ∀ c, c < 3 → S0 (u + 3) c < 0 ∨ ∃ t, t < 15 ∧ S0 (u + 3) c = nI t) : ∀ (f : Nat) (S : SS) (x2 : Int32) (i : Nat), x2 = nI i → i + f = 3 → BP S0 S w u [11, 10, 8, 7, 6, 5, 4, 3, 2, 1] m 4 i → (∀ S', BP S0 S' w u [11, 10, 8, 7, 6, 5, 4, 3, 2, 1] m 4 3 → ∀ x, E Θ (d + 2) 0 0 yX10_becomeAs cX10_becomeAs 3 none 0 0 183 (lay Θ S') 159 [(2, .int x), (1, .ref (tb Θ + u)), (0, .ref (tb Θ + w))] [] (Qv Q)) → E Θ (d + 2) 0 0 yX10_becomeAs cX10_becomeAs 3 none 0 0 183 (lay Θ S) 136 [(2, .int x2), (1, .ref (tb Θ + u)), (0, .ref (tb Θ + w))] [] (Qv Q) := by
  intro f
  induction f with
  | zero =>
    intro S x2 i hx2 hi hB K
    refine E_iload_n dX10_becomeAs_136 rfl ?_
    refine E_ic (v := 3) dX10_becomeAs_137 (by decide) ?_
    refine E_icmp_ge dX10_becomeAs_138 (fun _ => ?_) (fun c => absurd (by rw [hx2]; exact nI_le (a := 3) (by omega) (by omega)) c)
    rw [show i = 3 by omega] at hB
    exact K S hB x2
  | succ f ih =>
    intro S x2 i hx2 hi hB K
    refine E_iload_n dX10_becomeAs_136 rfl ?_
    refine E_ic (v := 3) dX10_becomeAs_137 (by decide) ?_
    refine E_icmp_ge dX10_becomeAs_138 (fun c => absurd c (fun c => absurd ((nI_leI (a := 3) (by omega) (by omega)).mp (hx2 ▸ c)) (by omega))) (fun _ => ?_)
    refine E_aload_n dX10_becomeAs_141 rfl ?_
    refine L_get fX10_33 dX10_becomeAs_142 (by have := (hw).lt; omega) (sh_W hw) rfl ?_
    refine E_iload_n dX10_becomeAs_145 rfl ?_
    refine E_aload_n dX10_becomeAs_146 rfl ?_
    refine L_get fX10_33 dX10_becomeAs_147 (by have := (hu).lt; omega) (sh_W hu) rfl ?_
    refine E_iload_n dX10_becomeAs_150 rfl ?_
    have h5 : S (u + 3) = S0 (u + 3) := hB.2.2.2.2 _ (by have := W_dis hw hu hne; omega)
    rcases hl i (by omega) with hn | ⟨t, ht, et⟩
    · have er : tref Θ (S (u + 3) i) = none := by rw [h5, tref, if_pos hn]
      refine L_aaldN (j := i) dX10_becomeAs_151 (by have := hu.lt; omega) (sh_Wl hu) rfl hx2 (by omega) (by decide) er ?_
      refine L_aastN (j := i) (x0 := S (u + 3) i) dX10_becomeAs_152 (by have := hw.lt; omega) (sh_Wl hw) rfl hx2 (by omega) (by decide) (tr_set er) ?_
      refine E_iinc (v := 1) dX10_becomeAs_153 rfl (by decide) (by decide) ?_
      refine E_goto dX10_becomeAs_156 ?_
      exact E.loc (by exact ⟨rfl, rfl, rfl, trivial⟩) (ih _ _ (i + 1) (by rw [hx2, nI_1]) (by omega) (hB.law hw hu hne) K)
    · have er : tref Θ (S (u + 3) i) = some (tb Θ + (86 + 3 * t)) := by rw [h5, et, tref, if_neg (show ¬ nI t < 0 from i_lt (nI_le (a := 0) (Nat.zero_le t) (by omega))), nI_clamp (by omega)]
      refine L_aald (j := i) dX10_becomeAs_151 (by have := hu.lt; omega) (sh_Wl hu) rfl hx2 (by omega) (by decide) er ?_
      refine L_aast (j := i) (x0 := S (u + 3) i) dX10_becomeAs_152 (by have := hw.lt; omega) (sh_Wl hw) rfl hx2 (by omega) (by decide) (by omega) (sh_T ⟨t, ht, rfl⟩) rfl (Or.inl rfl) (tr_set er) ?_
      refine E_iinc (v := 1) dX10_becomeAs_153 rfl (by decide) (by decide) ?_
      refine E_goto dX10_becomeAs_156 ?_
      exact E.loc (by exact ⟨rfl, rfl, rfl, trivial⟩) (ih _ _ (i + 1) (by rw [hx2, nI_1]) (by omega) (hB.law hw hu hne) K)
theorem s_X10_becomeAs {Q : HP → Prop} {w u : Nat} (hw : isW w) (hu : isW u) (hne : u ≠ w) (hR : WRep S u v) {m : Nat} (hmm : mN v = m) (hm9 : m ≤ 9) (hm : v 1 = nI m) (hl : ∀ c, c < 3 → S (u + 3) c < 0 ∨ ∃ t, t < 15 ∧ S (u + 3) c = nI t) (hq : ∀ S', WRep S' w v → WF w S S' → Q (lay Θ S')) : C Θ (d + 2) 0 0 yX10_becomeAs cX10_becomeAs 3 none [.ref (tb Θ + w), .ref (tb Θ + u)] 183 (lay Θ S) (Qv Q) := by
  refine C_of rfl rfl (Nat.le_of_ble_eq_true rfl) ?_
  have hu1 : S u 1 = nI m := (hR.1 (1, 1) (by decide)).trans hm
  refine E_aload_n dX10_becomeAs_0 rfl ?_
  refine E_aload_n dX10_becomeAs_1 rfl ?_
  have h00 : BP S S w u [] 0 0 0 := ⟨fun j hj => absurd hj (by simp), fun p hp => absurd hp (by omega), fun j hj => absurd hj (by omega), fun j hj => absurd hj (by omega), fun _ _ => rfl⟩
  refine W_cp (j := 1) h00 hw hu hne (by decide) fX10_40 dX10_becomeAs_2 dX10_becomeAs_5 (fun S0a h0 => ?_)
  refine E_ic (v := 0) dX10_becomeAs_8 (by decide) ?_
  refine E_istore_n dX10_becomeAs_9 (by decide) ?_
  refine E.loc (by exact ⟨rfl, rfl, rfl, trivial⟩) (l_X10_becomeAs10 hw hu hne hm9 hu1 m S0a 0 0 rfl (by omega) h0 (fun S48 h48z x => ?_))
  refine E_aload_n dX10_becomeAs_48 rfl ?_
  refine E_aload_n dX10_becomeAs_49 rfl ?_
  refine W_cp (j := 2) h48z hw hu hne (by decide) fX10_47 dX10_becomeAs_50 dX10_becomeAs_53 (fun S48 h48 => ?_)
  refine E_aload_n dX10_becomeAs_56 rfl ?_
  refine E_aload_n dX10_becomeAs_57 rfl ?_
  refine W_cp (j := 3) h48 hw hu hne (by decide) fX10_50 dX10_becomeAs_58 dX10_becomeAs_61 (fun S56 h56 => ?_)
  refine E_aload_n dX10_becomeAs_64 rfl ?_
  refine E_aload_n dX10_becomeAs_65 rfl ?_
  refine W_cp (j := 4) h56 hw hu hne (by decide) fX10_53 dX10_becomeAs_66 dX10_becomeAs_69 (fun S64 h64 => ?_)
  refine E_aload_n dX10_becomeAs_72 rfl ?_
  refine E_aload_n dX10_becomeAs_73 rfl ?_
  refine W_cp (j := 5) h64 hw hu hne (by decide) fX10_56 dX10_becomeAs_74 dX10_becomeAs_77 (fun S72 h72 => ?_)
  refine E_aload_n dX10_becomeAs_80 rfl ?_
  refine E_aload_n dX10_becomeAs_81 rfl ?_
  refine W_cp (j := 6) h72 hw hu hne (by decide) fX10_59 dX10_becomeAs_82 dX10_becomeAs_85 (fun S80 h80 => ?_)
  refine E_aload_n dX10_becomeAs_88 rfl ?_
  refine E_aload_n dX10_becomeAs_89 rfl ?_
  refine W_cp (j := 7) h80 hw hu hne (by decide) fX10_17 dX10_becomeAs_90 dX10_becomeAs_93 (fun S88 h88 => ?_)
  refine E_aload_n dX10_becomeAs_96 rfl ?_
  refine E_aload_n dX10_becomeAs_97 rfl ?_
  refine W_cp (j := 8) h88 hw hu hne (by decide) fX10_21 dX10_becomeAs_98 dX10_becomeAs_101 (fun S96 h96 => ?_)
  refine E_aload_n dX10_becomeAs_104 rfl ?_
  refine L_get fX10_24 dX10_becomeAs_105 (by have := (hu).lt; omega) (sh_W hu) rfl ?_
  refine E_ic (v := 0) dX10_becomeAs_108 (by decide) ?_
  refine E_aload_n dX10_becomeAs_109 rfl ?_
  refine L_get fX10_24 dX10_becomeAs_110 (by have := (hw).lt; omega) (sh_W hw) rfl ?_
  refine E_ic (v := 0) dX10_becomeAs_113 (by decide) ?_
  refine E_ic (v := 4) dX10_becomeAs_114 (by decide) ?_
  refine L_copy (sp := 0) (dp := 0) (len := 4) mX10_62 dX10_becomeAs_115 (Nat.le_of_ble_eq_true rfl) (by have := hu.lt; omega) (sh_Wt hu) (by have := hw.lt; omega) (sh_Wt hw) rfl rfl rfl (by decide) (by decide) (by decide) (by decide) ?_
  have h115 := h96.tal hw hu hne hm9
  refine E_aload_n dX10_becomeAs_118 rfl ?_
  refine E_aload_n dX10_becomeAs_119 rfl ?_
  refine W_cp (j := 10) h115 hw hu hne (by decide) fX10_68 dX10_becomeAs_120 dX10_becomeAs_123 (fun S118 h118 => ?_)
  refine E_aload_n dX10_becomeAs_126 rfl ?_
  refine E_aload_n dX10_becomeAs_127 rfl ?_
  refine W_cp (j := 11) h118 hw hu hne (by decide) fX10_28 dX10_becomeAs_128 dX10_becomeAs_131 (fun S126 h126 => ?_)
  refine E_ic (v := 0) dX10_becomeAs_134 (by decide) ?_
  refine E_istore_n dX10_becomeAs_135 (by decide) ?_
  refine E.loc (by exact ⟨rfl, rfl, rfl, trivial⟩) (l_X10_becomeAs136 hw hu hne hm9 hl 3 _ 0 0 rfl (by omega) h126 (fun S159 h159z x => ?_))
  refine E_aload_n dX10_becomeAs_159 rfl ?_
  refine E_aload_n dX10_becomeAs_160 rfl ?_
  refine W_cp (j := 13) h159z hw hu hne (by decide) fX10_71 dX10_becomeAs_161 dX10_becomeAs_164 (fun S159 h159 => ?_)
  refine E_vret dX10_becomeAs_167 rfl rfl ?_
  obtain ⟨r1, r2⟩ := h159.done hR hmm
  exact hq _ r1 r2
end Wc
