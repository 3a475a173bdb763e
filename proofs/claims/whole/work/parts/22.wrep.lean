/-! the class's worlds: what a world's cells hold -/
def trC (c : Int32) : Int32 := if 0 ≤ c then (if c < 10000 then c else 9999 - c) else if c = -1 then 10124 else if c = -2 then 10038 else if c = -3 then 10060 else if c = -4 then 10061 else if c = -5 then 10062 else if c = -6 then 10043 else if c = -7 then 10045 else if c = -8 then 10042 else if c = -9 then 10047 else 10033
def TRep (S : SS) (v : WV) : Prop := ∀ t, t < tN v → S (86 + 3 * t) 1 = v (96 + 2 * t) / 1000 ∧ S (86 + 3 * t) 2 = v (97 + 2 * t) ∧ S (86 + 3 * t) 3 = nI (lnF v t) ∧ ∀ k, k < lnF v t → S (86 + 3 * t + 1) k = trC (cdF v t k)
def wmL : List (Nat × Nat) := [(1, 1), (2, 5), (3, 6), (4, 7), (5, 8), (6, 9), (7, 3), (8, 4), (10, 2), (11, 0), (13, 14)]
def wpL : List (Nat × Nat) := [(2, 5), (3, 6), (4, 7), (5, 8), (6, 9), (7, 3), (8, 4), (10, 2), (11, 0)]
def WPas (S : SS) (k : Nat) (v : WV) (p : Nat) : Prop := S k 0 = v (15 + 9 * p) ∧ S k 1 = v (16 + 9 * p) ∧ S k 2 = v (17 + 9 * p) ∧ ∀ j, j < 6 → S (k + 1) j = v (18 + 9 * p + j)
def WRep (S : SS) (w : Nat) (v : WV) : Prop := (∀ q ∈ wmL, S w q.1 = v q.2) ∧ (∀ j, j < 4 → S (w + 2) j = v (10 + j)) ∧ (∀ c, c < 3 → S (w + 3) c = lawF v (nI c)) ∧ ∀ p, p < mN v → WPas S (w + 4 + 2 * p) v p
theorem cnt_congr {v u : WV} {key : Int32} : ∀ t, (∀ i, i < t → u (96 + 2 * i) = v (96 + 2 * i)) → cntF u key t = cntF v key t
  | 0, _ => rfl
  | t + 1, h => by rw [cntF, cntF, h t (by omega), cnt_congr t (fun i hi => h i (by omega))]
theorem law_upd {v : WV} {i : Nat} {x key : Int32} (h1 : i ≠ 14) (h2 : i < 96) : lawF (upd v i x) key = lawF v key := by
  rw [lawF, lawF, tN, tN, pk_un (Ne.symm h1)]
  exact cnt_congr _ (fun k _ => pk_un (by omega))
theorem mN_upd {v : WV} {i : Nat} {x : Int32} (h : i ≠ 1) : mN (upd v i x) = mN v := by rw [mN, mN, pk_un (Ne.symm h)]
theorem wm_inj : ∀ q ∈ wmL, ∀ q' ∈ wmL, (q.1 = q'.1 ↔ q.2 = q'.2) := by decide
theorem wp_in : ∀ q ∈ wpL, q ∈ wmL ∧ q.2 < 10 ∧ q.2 ≠ 1 ∧ q.2 ≠ 14 ∧ q.1 ≠ 1 ∧ q.1 ≠ 13 := by decide
theorem wm_lt : ∀ q ∈ wmL, q.2 < 15 := by decide
theorem wm_hi : ∀ q ∈ wmL, q.2 < 10 ∨ q.2 = 14 := by decide
theorem WRep.put {S : SS} {w : Nat} {v : WV} {j i : Nat} {x : Int32} (h : WRep S w v) (hji : (j, i) ∈ wpL) : WRep (wr S w j x) w (upd v i x) := by
  obtain ⟨h1, h2, h3, h4⟩ := h
  obtain ⟨a1, a2, a3, a4, -, -⟩ := wp_in (j, i) hji
  simp only at a2 a3 a4
  refine ⟨fun q hq => ?_, fun k hk => ?_, fun c hc => ?_, fun p hp => ?_⟩
  · rw [wr_at]
    by_cases e : q.1 = j
    · have e2 := (wm_inj q hq (j, i) a1).mp e
      simp only at e2
      rw [e, e2, pk_us, pk_us]
    · have e2 : q.2 ≠ i := fun z => e ((wm_inj q hq (j, i) a1).mpr z)
      rw [pk_un e, pk_un e2]
      exact h1 q hq
  · rw [wr_ne (by omega), pk_un (by omega)]
    exact h2 k hk
  · rw [wr_ne (by omega), law_upd a4 (by omega)]
    exact h3 c hc
  · rw [mN_upd a3] at hp
    obtain ⟨b1, b2, b3, b4⟩ := h4 p hp
    refine ⟨?_, ?_, ?_, fun k hk => ?_⟩
    · rw [wr_ne (by omega), pk_un (by omega)]; exact b1
    · rw [wr_ne (by omega), pk_un (by omega)]; exact b2
    · rw [wr_ne (by omega), pk_un (by omega)]; exact b3
    · rw [wr_ne (by omega), pk_un (by omega)]; exact b4 k hk
theorem WRep.tal {S : SS} {w : Nat} {v : WV} {j : Nat} {x : Int32} (h : WRep S w v) (hj : j < 4) : WRep (wr S (w + 2) j x) w (upd v (10 + j) x) := by
  obtain ⟨h1, h2, h3, h4⟩ := h
  refine ⟨fun q hq => ?_, fun k hk => ?_, fun c hc => ?_, fun p hp => ?_⟩
  · have := wm_hi q hq
    rw [wr_ne (by omega), pk_un (by omega)]
    exact h1 q hq
  · rw [wr_at]
    by_cases e : k = j
    · subst e
      rw [pk_us, pk_us]
    · rw [pk_un e, pk_un (by omega)]
      exact h2 k hk
  · rw [wr_ne (by omega), law_upd (by omega) (by omega)]
    exact h3 c hc
  · rw [mN_upd (by omega)] at hp
    obtain ⟨b1, b2, b3, b4⟩ := h4 p hp
    refine ⟨?_, ?_, ?_, fun k hk => ?_⟩
    · rw [wr_ne (by omega), pk_un (by omega)]; exact b1
    · rw [wr_ne (by omega), pk_un (by omega)]; exact b2
    · rw [wr_ne (by omega), pk_un (by omega)]; exact b3
    · rw [wr_ne (by omega), pk_un (by omega)]; exact b4 k hk
theorem WRep.pas {S : SS} {w : Nat} {v : WV} {p f : Nat} {x : Int32} (h : WRep S w v) (hm : mN v ≤ 9) (hp : p < mN v) (hf : f < 3) : WRep (wr S (w + 4 + 2 * p) f x) w (upd v (15 + 9 * p + f) x) := by
  obtain ⟨h1, h2, h3, h4⟩ := h
  refine ⟨fun q hq => ?_, fun k hk => ?_, fun c hc => ?_, fun q hq => ?_⟩
  · have := wm_lt q hq
    rw [wr_ne (by omega), pk_un (by omega)]
    exact h1 q hq
  · rw [wr_ne (by omega), pk_un (by omega)]
    exact h2 k hk
  · rw [wr_ne (by omega), law_upd (by omega) (by omega)]
    exact h3 c hc
  · rw [mN_upd (by omega)] at hq
    obtain ⟨b1, b2, b3, b4⟩ := h4 q hq
    by_cases e : q = p
    · subst e
      refine ⟨?_, ?_, ?_, fun k hk => ?_⟩
      · rw [wr_at]
        by_cases z : f = 0
        · subst z; rw [pk_us]; exact pk_us.symm
        · rw [pk_un (by omega), pk_un (by omega)]; exact b1
      · rw [wr_at]
        by_cases z : f = 1
        · subst z; rw [pk_us, show 16 + 9 * q = 15 + 9 * q + 1 by omega, pk_us]
        · rw [pk_un (by omega), pk_un (by omega)]; exact b2
      · rw [wr_at]
        by_cases z : f = 2
        · subst z; rw [pk_us, show 17 + 9 * q = 15 + 9 * q + 2 by omega, pk_us]
        · rw [pk_un (by omega), pk_un (by omega)]; exact b3
      · rw [wr_ne (by omega), pk_un (by omega)]; exact b4 k hk
    · refine ⟨?_, ?_, ?_, fun k hk => ?_⟩
      · rw [wr_ne (by omega), pk_un (by omega)]; exact b1
      · rw [wr_ne (by omega), pk_un (by omega)]; exact b2
      · rw [wr_ne (by omega), pk_un (by omega)]; exact b3
      · rw [wr_ne (by omega), pk_un (by omega)]; exact b4 k hk
theorem WRep.view {S : SS} {w : Nat} {v : WV} {p j : Nat} {x : Int32} (h : WRep S w v) (hm : mN v ≤ 9) (hp : p < mN v) (hj : j < 6) : WRep (wr S (w + 4 + 2 * p + 1) j x) w (upd v (18 + 9 * p + j) x) := by
  obtain ⟨h1, h2, h3, h4⟩ := h
  refine ⟨fun q hq => ?_, fun k hk => ?_, fun c hc => ?_, fun q hq => ?_⟩
  · have := wm_lt q hq
    rw [wr_ne (by omega), pk_un (by omega)]
    exact h1 q hq
  · rw [wr_ne (by omega), pk_un (by omega)]
    exact h2 k hk
  · rw [wr_ne (by omega), law_upd (by omega) (by omega)]
    exact h3 c hc
  · rw [mN_upd (by omega)] at hq
    obtain ⟨b1, b2, b3, b4⟩ := h4 q hq
    refine ⟨?_, ?_, ?_, fun k hk => ?_⟩
    · rw [wr_ne (by omega), pk_un (by omega)]; exact b1
    · rw [wr_ne (by omega), pk_un (by omega)]; exact b2
    · rw [wr_ne (by omega), pk_un (by omega)]; exact b3
    · by_cases e : q = p
      · subst e
        rw [wr_at]
        by_cases z : k = j
        · subst z; rw [pk_us, pk_us]
        · rw [pk_un z, pk_un (by omega)]; exact b4 k hk
      · rw [wr_ne (by omega), pk_un (by omega)]; exact b4 k hk
/-- a world's cells, and the stacks of texts, alone are changed -/
def WF (w : Nat) (S S' : SS) : Prop := ∀ k, (k < w ∨ w + 22 ≤ k) → (∀ t, t < 15 → k ≠ 86 + 3 * t + 2) → S' k = S k
theorem WF.rf {w : Nat} {S : SS} : WF w S S := fun _ _ _ => rfl
theorem WF.tr {w : Nat} {S S' S'' : SS} (h : WF w S S') (h' : WF w S' S'') : WF w S S'' := fun k a b => (h' k a b).trans (h k a b)
theorem WF.w {w k j : Nat} {S : SS} {x : Int32} (h1 : w ≤ k) (h2 : k < w + 22) : WF w S (wr S k j x) := fun k' a _ => wr_ne (by omega)
section WRows
variable {Θ : Th} {d mc ms : Nat} {y : MethodName} {cc : ByteArray} {nL : Nat} {ret : Option FieldType} {cl sl : Nat} {S : SS} {v : WV} {pc pc' : Nat} {ls : LV} {st : List Value} {Q : QT} {w : Nat}
theorem W_get {j i cp : Nat} (hR : WRep S w v) (hw : isW w) (hji : (j, i) ∈ wmL) (hF : FA y.cls cp 10 j .int false) (hd : Dc cc pc (.getfield cp) 3 pc') (K : E Θ d mc ms y cc nL ret cl sl 183 (lay Θ S) pc' ls (.int (v i) :: st) Q) : E Θ d mc ms y cc nL ret cl sl 183 (lay Θ S) pc ls (.ref (tb Θ + w) :: st) Q := by
  have e : S w j = v i := hR.1 (j, i) hji
  refine L_get (j := j) (v := .int (S w j)) hF hd (by have := hw.lt; omega) (sh_W hw) ?_ ?_
  · simp only [wmL, List.mem_cons, Prod.mk.injEq, List.not_mem_nil, or_false] at hji
    rcases hji with ⟨rfl, rfl⟩ | ⟨rfl, rfl⟩ | ⟨rfl, rfl⟩ | ⟨rfl, rfl⟩ | ⟨rfl, rfl⟩ | ⟨rfl, rfl⟩ | ⟨rfl, rfl⟩ | ⟨rfl, rfl⟩ | ⟨rfl, rfl⟩ | ⟨rfl, rfl⟩ | ⟨rfl, rfl⟩ <;> rfl
  · rw [e]
    exact K
theorem W_put {j i cp : Nat} {x0 : Int32} (hR : WRep S w v) (hw : isW w) (hji : (j, i) ∈ wpL) (hF : FA y.cls cp 10 j .int false) (hd : Dc cc pc (.putfield cp) 3 pc') (K : ∀ S', WRep S' w (upd v i x0) → WF w S S' → E Θ d mc ms y cc nL ret cl sl 183 (lay Θ S') pc' ls st Q) : E Θ d mc ms y cc nL ret cl sl 183 (lay Θ S) pc ls (.int x0 :: .ref (tb Θ + w) :: st) Q := by
  refine L_puti (j := j) hF hd (by have := hw.lt; omega) (sh_W hw) ?_ ?_ (K _ (hR.put hji) (WF.w (by omega) (by omega)))
  · simp only [wpL, List.mem_cons, Prod.mk.injEq, List.not_mem_nil, or_false] at hji
    rcases hji with ⟨rfl, rfl⟩ | ⟨rfl, rfl⟩ | ⟨rfl, rfl⟩ | ⟨rfl, rfl⟩ | ⟨rfl, rfl⟩ | ⟨rfl, rfl⟩ | ⟨rfl, rfl⟩ | ⟨rfl, rfl⟩ | ⟨rfl, rfl⟩ <;> exact Nat.le_of_ble_eq_true rfl
  · simp only [wpL, List.mem_cons, Prod.mk.injEq, List.not_mem_nil, or_false] at hji
    rcases hji with ⟨rfl, rfl⟩ | ⟨rfl, rfl⟩ | ⟨rfl, rfl⟩ | ⟨rfl, rfl⟩ | ⟨rfl, rfl⟩ | ⟨rfl, rfl⟩ | ⟨rfl, rfl⟩ | ⟨rfl, rfl⟩ | ⟨rfl, rfl⟩ <;> rfl
theorem T_get {j : Nat} {x : Int32} (hR : WRep S w v) (hw : isW w) (hd : Dc cc pc .iaload 1 pc') (hx : x = nI j) (hj : j < 4) (K : E Θ d mc ms y cc nL ret cl sl 183 (lay Θ S) pc' ls (.int (v (10 + j)) :: st) Q) : E Θ d mc ms y cc nL ret cl sl 183 (lay Θ S) pc ls (.int x :: .ref (tb Θ + (w + 2)) :: st) Q := by
  refine L_iald (j := j) hd (by have := hw.lt; omega) (sh_Wt hw) hx hj (by decide) ?_
  rw [hR.2.1 j hj]
  exact K
theorem T_put {j : Nat} {x x0 : Int32} (hR : WRep S w v) (hw : isW w) (hd : Dc cc pc .iastore 1 pc') (hx : x = nI j) (hj : j < 4) (K : ∀ S', WRep S' w (upd v (10 + j) x0) → WF w S S' → E Θ d mc ms y cc nL ret cl sl 183 (lay Θ S') pc' ls st Q) : E Θ d mc ms y cc nL ret cl sl 183 (lay Θ S) pc ls (.int x0 :: .int x :: .ref (tb Θ + (w + 2)) :: st) Q :=
  L_iast (j := j) hd (by have := hw.lt; omega) (sh_Wt hw) hx hj (by decide) (K _ (hR.tal hj) (WF.w (by omega) (by omega)))
theorem P_bank {p cp : Nat} (hR : WRep S w v) (hw : isW w) {m : Nat} (hmm : mN v = m) (hm : m ≤ 9) (hp : p < m) (hF : FA y.cls cp 4 1 .int false) (hd : Dc cc pc (.getfield cp) 3 pc') (K : E Θ d mc ms y cc nL ret cl sl 183 (lay Θ S) pc' ls (.int (v (16 + 9 * p)) :: st) Q) : E Θ d mc ms y cc nL ret cl sl 183 (lay Θ S) pc ls (.ref (tb Θ + (w + 4 + 2 * p)) :: st) Q := by
  subst hmm
  have hP := hw.p (i := p) (by omega)
  refine L_get hF hd (by have := hP.lt; omega) (sh_P hP) rfl ?_
  rw [(hR.2.2.2 p hp).2.1]
  exact K
theorem P_temp {p cp : Nat} (hR : WRep S w v) (hw : isW w) {m : Nat} (hmm : mN v = m) (hm : m ≤ 9) (hp : p < m) (hF : FA y.cls cp 4 2 .int false) (hd : Dc cc pc (.getfield cp) 3 pc') (K : E Θ d mc ms y cc nL ret cl sl 183 (lay Θ S) pc' ls (.int (v (17 + 9 * p)) :: st) Q) : E Θ d mc ms y cc nL ret cl sl 183 (lay Θ S) pc ls (.ref (tb Θ + (w + 4 + 2 * p)) :: st) Q := by
  subst hmm
  have hP := hw.p (i := p) (by omega)
  refine L_get hF hd (by have := hP.lt; omega) (sh_P hP) rfl ?_
  rw [(hR.2.2.2 p hp).2.2.1]
  exact K
theorem P_nat {p c cp : Nat} (hR : WRep S w v) (hw : isW w) {m : Nat} (hmm : mN v = m) (hm : m ≤ 9) (hp : p < m) (hc : c < 6) (hk : v (15 + 9 * p) = nI c) (hF : FA y.cls cp 4 0 (.object "ArguedFerry$Nature") false) (hd : Dc cc pc (.getfield cp) 3 pc') (K : E Θ d mc ms y cc nL ret cl sl 183 (lay Θ S) pc' ls (.ref (tb Θ + (14 + c)) :: st) Q) : E Θ d mc ms y cc nL ret cl sl 183 (lay Θ S) pc ls (.ref (tb Θ + (w + 4 + 2 * p)) :: st) Q := by
  subst hmm
  have hP := hw.p (i := p) (by omega)
  refine L_get hF hd (by have := hP.lt; omega) (sh_P hP) rfl ?_
  rw [(hR.2.2.2 p hp).1, hk, kref, nI_clamp (by omega)]
  exact K
theorem P_views {p cp : Nat} (hw : isW w) (hp : p < 9) (hF : FA y.cls cp 4 3 (.array .int) true) (hd : Dc cc pc (.getfield cp) 3 pc') (K : E Θ d mc ms y cc nL ret cl sl 183 (lay Θ S) pc' ls (.ref (tb Θ + (w + 4 + 2 * p + 1)) :: st) Q) : E Θ d mc ms y cc nL ret cl sl 183 (lay Θ S) pc ls (.ref (tb Θ + (w + 4 + 2 * p)) :: st) Q := by
  have hP := hw.p (i := p) hp
  exact L_get hF hd (by have := hP.lt; omega) (sh_P hP) rfl K
theorem P_put {p f cp : Nat} {x0 : Int32} (hR : WRep S w v) (hw : isW w) {m : Nat} (hmm : mN v = m) (hm : m ≤ 9) (hp : p < m) (hf : f = 1 ∨ f = 2) (hF : FA y.cls cp 4 f .int false) (hd : Dc cc pc (.putfield cp) 3 pc') (K : ∀ S', WRep S' w (upd v (15 + 9 * p + f) x0) → WF w S S' → E Θ d mc ms y cc nL ret cl sl 183 (lay Θ S') pc' ls st Q) : E Θ d mc ms y cc nL ret cl sl 183 (lay Θ S) pc ls (.int x0 :: .ref (tb Θ + (w + 4 + 2 * p)) :: st) Q := by
  subst hmm
  have hP := hw.p (i := p) (by omega)
  refine L_puti hF hd (by have := hP.lt; omega) (sh_P hP) ?_ ?_ (K _ (hR.pas hm hp (by omega)) (WF.w (by omega) (by omega)))
  · rcases hf with rfl | rfl <;> exact Nat.le_of_ble_eq_true rfl
  · rcases hf with rfl | rfl <;> rfl
theorem V_get {p j : Nat} {x : Int32} (hR : WRep S w v) (hw : isW w) {m : Nat} (hmm : mN v = m) (hm : m ≤ 9) (hp : p < m) (hd : Dc cc pc .iaload 1 pc') (hx : x = nI j) (hj : j < 6) (K : E Θ d mc ms y cc nL ret cl sl 183 (lay Θ S) pc' ls (.int (vwF v p j) :: st) Q) : E Θ d mc ms y cc nL ret cl sl 183 (lay Θ S) pc ls (.int x :: .ref (tb Θ + (w + 4 + 2 * p + 1)) :: st) Q := by
  subst hmm
  have hP := hw.p (i := p) (by omega)
  refine L_iald (j := j) hd (by have := hP.lt; omega) (sh_Pv hP) hx hj (by decide) ?_
  rw [(hR.2.2.2 p hp).2.2.2 j hj]
  exact K
theorem V_put {p j : Nat} {x x0 : Int32} (hR : WRep S w v) (hw : isW w) {m : Nat} (hmm : mN v = m) (hm : m ≤ 9) (hp : p < m) (hd : Dc cc pc .iastore 1 pc') (hx : x = nI j) (hj : j < 6) (K : ∀ S', WRep S' w (upd v (18 + 9 * p + j) x0) → WF w S S' → E Θ d mc ms y cc nL ret cl sl 183 (lay Θ S') pc' ls st Q) : E Θ d mc ms y cc nL ret cl sl 183 (lay Θ S) pc ls (.int x0 :: .int x :: .ref (tb Θ + (w + 4 + 2 * p + 1)) :: st) Q := by
  subst hmm
  have hP := hw.p (i := p) (by omega)
  exact L_iast (j := j) hd (by have := hP.lt; omega) (sh_Pv hP) hx hj (by decide) (K _ (hR.view hm hp hj) (WF.w (by omega) (by omega)))
end WRows
