/-! the parser, pure: tokens, and the reference's loop as steps -/
def soT (x : Int32) : Int32 := if 97 ≤ x ∧ x ≤ 122 then 256 else if 48 ≤ x ∧ x ≤ 57 then 257 else x
abbrev isWd (t : Int32) : Prop := t = 256 ∨ t = 257
def skF (b : Nat → Int32) : Nat → Nat → Nat
  | 0, p => p
  | f + 1, p => if b p = 32 then skF b f (p + 1) else p
def wdF (b : Nat → Int32) (t : Int32) : Nat → Nat → Nat
  | 0, p => p
  | f + 1, p => if soT (b p) = t then wdF b t f (p + 1) else p
/-- where the next word or sign begins; where it ends; what it is: behind a place e and a token t -/
def nxS (b : Nat → Int32) (n e : Nat) : Nat := skF b (n - e) e
def nxE (b : Nat → Int32) (n e : Nat) : Nat := if n ≤ nxS b n e then nxS b n e else if isWd (soT (b (nxS b n e))) then wdF b (soT (b (nxS b n e))) (n - (nxS b n e + 1)) (nxS b n e + 1) else nxS b n e + 1
def nxK (b : Nat → Int32) (n e : Nat) (t : Int32) : Int32 := if n ≤ nxS b n e then 258 else if isWd (soT (b (nxS b n e))) ∧ isWd t ∧ nxS b n e = e then 259 else soT (b (nxS b n e))
theorem sk_le {b : Nat → Int32} : ∀ f p, p ≤ skF b f p ∧ skF b f p ≤ p + f
  | 0, p => ⟨Nat.le_refl _, Nat.le_refl _⟩
  | f + 1, p => by
    rw [skF]
    split
    · have := sk_le (b := b) f (p + 1)
      omega
    · omega
theorem wd_le {b : Nat → Int32} {t : Int32} : ∀ f p, p ≤ wdF b t f p ∧ wdF b t f p ≤ p + f
  | 0, p => ⟨Nat.le_refl _, Nat.le_refl _⟩
  | f + 1, p => by
    rw [wdF]
    split
    · have := wd_le (b := b) (t := t) f (p + 1)
      omega
    · omega
theorem nxS_le {b : Nat → Int32} {n e : Nat} (h : e ≤ n) : e ≤ nxS b n e ∧ nxS b n e ≤ n := by
  have := sk_le (b := b) (n - e) e
  unfold nxS
  omega
theorem nxE_le {b : Nat → Int32} {n e : Nat} (h : e ≤ n) : nxS b n e ≤ nxE b n e ∧ nxE b n e ≤ n ∧ (nxS b n e < n → nxS b n e < nxE b n e) := by
  have hs := nxS_le (b := b) h
  unfold nxE
  by_cases c : n ≤ nxS b n e
  · rw [if_pos c]
    omega
  · rw [if_neg c]
    by_cases w : isWd (soT (b (nxS b n e)))
    · rw [if_pos w]
      have := wd_le (b := b) (t := soT (b (nxS b n e))) (n - (nxS b n e + 1)) (nxS b n e + 1)
      omega
    · rw [if_neg w]
      omega
/-- bytes, as a tape has them -/
def byOk (b : Nat → Int32) (n : Nat) : Prop := ∀ k, k < n → ∃ q, q < 256 ∧ b k = nI q
theorem soT_fin : ∀ q : Fin 256, (soT (nI q.val) = 256 ∧ 97 ≤ q.val ∧ q.val ≤ 122) ∨ (soT (nI q.val) = 257 ∧ 48 ≤ q.val ∧ q.val ≤ 57) ∨ (soT (nI q.val) = nI q.val ∧ ¬ (97 ≤ q.val ∧ q.val ≤ 122) ∧ ¬ (48 ≤ q.val ∧ q.val ≤ 57)) := by decide +kernel
theorem soT_q {q : Nat} (h : q < 256) : (soT (nI q) = 256 ∧ 97 ≤ q ∧ q ≤ 122) ∨ (soT (nI q) = 257 ∧ 48 ≤ q ∧ q ≤ 57) ∨ (soT (nI q) = nI q ∧ ¬ (97 ≤ q ∧ q ≤ 122) ∧ ¬ (48 ≤ q ∧ q ≤ 57)) := soT_fin ⟨q, h⟩
/-- a token at s..e -/
def TkO (b : Nat → Int32) (n s e : Nat) (t : Int32) : Prop := s ≤ e ∧ e ≤ n ∧ (t = 258 → s = n) ∧ (¬ t = 258 → s < e) ∧ (t = 256 → ∀ k, s ≤ k → k < e → soT (b k) = 256) ∧ (t = 257 → ∀ k, s ≤ k → k < e → soT (b k) = 257) ∧ (¬ t = 258 → ¬ t = 259 → ¬ isWd t → t = b s ∧ soT (b s) = b s ∧ e = s + 1)
theorem wd_all {b : Nat → Int32} {t : Int32} : ∀ f p k, p ≤ k → k < wdF b t f p → soT (b k) = t
  | 0, p, k, h1, h2 => absurd h2 (by rw [wdF]; omega)
  | f + 1, p, k, h1, h2 => by
    rw [wdF] at h2
    by_cases c : soT (b p) = t
    · rw [if_pos c] at h2
      by_cases e : k = p
      · rw [e]; exact c
      · exact wd_all f (p + 1) k (by omega) h2
    · rw [if_neg c] at h2
      omega
theorem soT_no {q : Nat} (h : q < 256) : ¬ soT (nI q) = 258 ∧ ¬ soT (nI q) = 259 := by
  have a : ∀ q : Fin 256, ¬ soT (nI q.val) = 258 ∧ ¬ soT (nI q.val) = 259 := by decide +kernel
  exact a ⟨q, h⟩
theorem nx_ok {b : Nat → Int32} {n e : Nat} {t : Int32} (hb : byOk b n) (h : e ≤ n) : TkO b n (nxS b n e) (nxE b n e) (nxK b n e t) := by
  have hs := nxS_le (b := b) h
  have he := nxE_le (b := b) h
  by_cases c : n ≤ nxS b n e
  · have ek : nxK b n e t = 258 := by rw [nxK, if_pos c]
    rw [ek]
    exact ⟨he.1, he.2.1, fun _ => by omega, fun z => absurd rfl z, fun z => absurd z (by decide), fun z => absurd z (by decide), fun z => absurd rfl z⟩
  · obtain ⟨q, hq, eq⟩ := hb (nxS b n e) (by omega)
    obtain ⟨n8, n9⟩ := soT_no hq
    rw [← eq] at n8 n9
    have hsort : nxK b n e t = 259 ∨ nxK b n e t = soT (b (nxS b n e)) := by
      rw [nxK, if_neg c]
      split
      · exact Or.inl rfl
      · exact Or.inr rfl
    have hne : ¬ nxK b n e t = 258 := by
      rcases hsort with z | z <;> rw [z]
      · decide
      · exact n8
    have hall : isWd (soT (b (nxS b n e))) → ∀ k, nxS b n e ≤ k → k < nxE b n e → soT (b k) = soT (b (nxS b n e)) := by
      intro w k h1 h2
      rw [nxE, if_neg c, if_pos w] at h2
      by_cases z : k = nxS b n e
      · rw [z]
      · exact wd_all _ _ k (by omega) h2
    refine ⟨he.1, he.2.1, fun z => absurd z hne, fun _ => he.2.2 (by omega), fun z k h1 h2 => ?_, fun z k h1 h2 => ?_, fun _ z9 zw => ?_⟩
    · rcases hsort with y | y
      · rw [y] at z; exact absurd z (by decide)
      · rw [y] at z
        rw [hall (Or.inl z) k h1 h2]; exact z
    · rcases hsort with y | y
      · rw [y] at z; exact absurd z (by decide)
      · rw [y] at z
        rw [hall (Or.inr z) k h1 h2]; exact z
    · rcases hsort with y | y
      · exact absurd y z9
      · rw [y] at zw ⊢
        rw [eq] at zw ⊢
        rcases soT_q hq with ⟨a, -, -⟩ | ⟨a, -, -⟩ | ⟨a, -, -⟩
        · exact absurd (Or.inl a) zw
        · exact absurd (Or.inr a) zw
        · refine ⟨a, a, ?_⟩
          rw [nxE, if_neg c, if_neg (by rw [eq]; exact zw)]
/-- a number as it is read -/
def nuF (b : Nat → Int32) (s : Nat) : Nat → Int32
  | 0 => 0
  | j + 1 => 10 * nuF b s j + b (s + j) - 48
theorem nu_ix {b : Nat → Int32} {s : Nat} : ∀ j, j ≤ 4 → (∀ k, k < j → ∃ q, q < 256 ∧ b (s + k) = nI q ∧ soT (b (s + k)) = 257) → ∃ q, q < 10 ^ j ∧ nuF b s j = nI q
  | 0, _, _ => ⟨0, by decide, rfl⟩
  | j + 1, hj, h => by
    obtain ⟨q, hq, e⟩ := nu_ix (b := b) (s := s) j (by omega) (fun k hk => h k (by omega))
    obtain ⟨r, hr, er, es⟩ := h j (by omega)
    rw [er] at es
    have hr2 : 48 ≤ r ∧ r ≤ 57 := by
      rcases soT_q hr with ⟨a, -, -⟩ | ⟨a, x, y⟩ | ⟨a, x, y⟩
      · rw [a] at es; exact absurd es (by decide)
      · exact ⟨x, y⟩
      · rw [a] at es
        have := nI_inj (by omega) (by decide) (show nI r = nI 257 from es)
        omega
    have hp : 10 ^ j ≤ 1000 := Nat.le_trans (Nat.pow_le_pow_right (by decide) (show j ≤ 3 by omega)) (by decide)
    refine ⟨10 * q + r - 48, ?_, ?_⟩
    · rw [Nat.pow_succ]
      omega
    · rw [nuF, e, er, show (10 : Int32) * nI q = nI (10 * q) from pk_mul 10 q, nI_add]
      exact pk_sub (b := 48) (by omega)
def nmR (key : Nat) (x : Int32) : Int32 := if key = 0 then (if x = 100 then 0 else if x = 116 then 1 else if x = 110 then 2 else -1) else if key = 1 then (if x = 99 then 0 else if x = 115 then 1 else -1) else (if x = 116 then 0 else if x = 98 then 1 else -1)
/-- a number or a name: its code -/
def paF (b : Nat → Int32) (key s e : Nat) (t : Int32) : Option Int32 := if t = 257 then (if e - s ≤ 4 then some (nuF b s (e - s)) else none) else if t = 256 then (if e - s = 1 ∧ ¬ nmR key (b s) < 0 then some (10000 + nmR key (b s)) else none) else none
def sgF (t : Int32) : Int32 := if t = 124 then -1 else if t = 38 then -2 else if t = 60 then -3 else if t = 61 then -4 else if t = 62 then -5 else if t = 43 then -6 else if t = 45 then -7 else if t = 42 then -8 else if t = 47 then -9 else 0
def rkF (w : Int32) : Nat := if w = -1 then 1 else if w = -2 then 2 else if -5 ≤ w then 3 else if -7 ≤ w then 4 else if -9 ≤ w then 5 else 6
def stl (r : Nat) : List Int32 → List Int32 → List Int32 × List Int32
  | [], C => ([], C)
  | w :: W, C => if w = -11 ∨ rkF w < r then (w :: W, C) else stl r W (w :: C)
def nnF : List Int32 → Nat
  | [] => 0
  | w :: W => nnF W + (if w = -10 then 1 else 0)
def opF : List Int32 → Nat
  | [] => 0
  | w :: W => opF W + (if w = -11 then 1 else 0)
def biF : List Int32 → Nat
  | [] => 0
  | w :: W => biF W + (if w = -10 ∨ w = -11 then 0 else 1)
def teU (te : Nat → Bool) (p : Nat) (x : Bool) : Nat → Bool := fun q => if q = p then x else te q
/-- an end: codes and atoms, or a fault's place -/
abbrev OU : Type := Option (List Int32 × Nat) × Nat
abbrev PS : Type := Bool × Nat × Nat × List Int32 × List Int32 × Nat × (Nat → Bool) × Nat × Nat × Int32
def Rn (b : Nat → Int32) (n key : Nat) : Nat → PS → OU → Prop
  | 0, _, _ => False
  | f + 1, (w, par, nots, W, C, at_, te, s, e, t), o =>
    if w = false ∧ t = 258 then (if par = 0 then o.1 = some ((stl 0 W C).2, at_) else o = (none, s))
    else if w = true then
      (if t = 33 ∧ nots < 8 then Rn b n key f (true, par, nnF (-10 :: W), -10 :: W, C, at_, te, nxS b n e, nxE b n e, nxK b n e t) o
       else if t = 40 ∧ par < 8 then Rn b n key f (true, par + 1, nnF (-11 :: W), -11 :: W, C, at_, teU te (par + 1) false, nxS b n e, nxE b n e, nxK b n e t) o
       else match paF b key s e t with
         | none => o = (none, s)
         | some c => Rn b n key f (false, par, nnF (stl 6 W (c :: C)).1, (stl 6 W (c :: C)).1, (stl 6 W (c :: C)).2, at_ + 1, te, nxS b n e, nxE b n e, nxK b n e t) o)
    else if t = 41 ∧ 0 < par then Rn b n key f (false, par - 1, nnF (stl 6 (stl 0 W C).1.tail (stl 0 W C).2).1, (stl 6 (stl 0 W C).1.tail (stl 0 W C).2).1, (stl 6 (stl 0 W C).1.tail (stl 0 W C).2).2, at_, te, nxS b n e, nxE b n e, nxK b n e t) o
    else if sgF t = 0 ∨ (rkF (sgF t) = 3 ∧ te par = true) then o = (none, s)
    else Rn b n key f (true, par, nots, sgF t :: (stl (rkF (sgF t)) W C).1, (stl (rkF (sgF t)) W C).2, at_, teU te par (rkF (sgF t) == 3 || (decide (3 < rkF (sgF t)) && te par)), nxS b n e, nxE b n e, nxK b n e t) o
/-- what stands of a state -/
def dpS (c : Int32) (d : Nat) : Option Nat := if 0 ≤ c then (if c < 10003 then some (d + 1) else none) else if c = -10 then (if 1 ≤ d then some d else none) else (if 2 ≤ d ∧ -9 ≤ c then some (d - 1) else none)
def dpL : List Int32 → Option Nat
  | [] => some 0
  | c :: C => (dpL C).bind (dpS c)
def okL (m : Nat) : List Int32 → Prop
  | [] => True
  | c :: C => okL m C ∧ ∃ q, dpL (c :: C) = some q ∧ q ≤ m
abbrev wOk (W : List Int32) : Prop := ∀ w ∈ W, -11 ≤ w ∧ w < 0
abbrev cOk (key : Nat) (C : List Int32) : Prop := ∀ c ∈ C, -10 ≤ c ∧ (0 ≤ c → c < 10003) ∧ (¬ key = 0 → c < 10002)
/-- no not waits in the top segment (false), or only on its top (true) -/
def gF : List Int32 → Bool → Prop
  | [], _ => True
  | w :: W, true => if w = -10 then gF W true else if w = -11 then gF W true else gF W false
  | w :: W, false => if w = -11 then gF W true else w ≠ -10 ∧ gF W false
def PIn (b : Nat → Int32) (n key : Nat) : PS → Prop
  | (w, par, nots, W, C, at_, te, s, e, t) => TkO b n s e t ∧ n ≤ 96 ∧ W.length + C.length ≤ s ∧ 2 * at_ + 2 + (if w then 1 else 0) ≤ s ∧ par = opF W ∧ par ≤ 8 ∧ nots = nnF W ∧ nots ≤ 8 ∧ wOk W ∧ cOk key C ∧ dpL C = some (biF W + (if w then 0 else 1)) ∧ biF W + (if w then 0 else 1) ≤ at_ ∧ okL at_ C ∧ gF W w
theorem okL.mono {m m' : Nat} (h : m ≤ m') : ∀ {C : List Int32}, okL m C → okL m' C
  | [], _ => trivial
  | c :: C, ⟨a, q, e, l⟩ => ⟨okL.mono h a, q, e, by omega⟩
theorem stl_len {r : Nat} : ∀ (W C : List Int32), (stl r W C).1.length + (stl r W C).2.length = W.length + C.length
  | [], C => rfl
  | w :: W, C => by
    rw [stl]
    split
    · rfl
    · rw [stl_len W (w :: C)]
      simp only [List.length_cons]
      omega
theorem stl_grow {r : Nat} : ∀ (W C : List Int32), C.length ≤ (stl r W C).2.length
  | [], C => Nat.le_refl _
  | w :: W, C => by
    rw [stl]
    split
    · exact Nat.le_refl _
    · have := stl_grow (r := r) W (w :: C)
      simp only [List.length_cons] at this
      omega
theorem stl_op {r : Nat} : ∀ (W C : List Int32), opF (stl r W C).1 = opF W
  | [], C => rfl
  | w :: W, C => by
    rw [stl]
    by_cases h : w = -11 ∨ rkF w < r
    · rw [if_pos h]
    · rw [if_neg h, stl_op W (w :: C), opF, if_neg (fun z => h (Or.inl z))]
      rfl
theorem stl_w {r : Nat} : ∀ (W C : List Int32), wOk W → wOk (stl r W C).1
  | [], C, h => h
  | w :: W, C, h => by
    rw [stl]
    split
    · exact h
    · exact stl_w W (w :: C) (fun x hx => h x (List.mem_cons_of_mem _ hx))
theorem stl_c {r key : Nat} : ∀ (W C : List Int32), wOk W → cOk key C → cOk key (stl r W C).2
  | [], C, _, h => h
  | w :: W, C, hw, h => by
    rw [stl]
    by_cases c : w = -11 ∨ rkF w < r
    · rw [if_pos c]
      exact h
    · rw [if_neg c]
      refine stl_c W (w :: C) (fun x hx => hw x (List.mem_cons_of_mem _ hx)) (fun x hx => ?_)
      rcases List.mem_cons.mp hx with e | e
      · subst e
        obtain ⟨a1, a2⟩ := hw x List.mem_cons_self
        refine ⟨?_, fun z => absurd z (i_le a2), fun _ => Int32.lt_trans a2 (by decide)⟩
        have n11 : x ≠ -11 := fun z => c (Or.inl z)
        have h1 := Int32.le_iff_toInt_le.mp a1
        rw [show (-11 : Int32).toInt = -11 from rfl] at h1
        have h2 : x.toInt ≠ -11 := fun z => n11 (Int32.toInt_inj.mp z)
        exact Int32.le_iff_toInt_le.mpr (by rw [show (-10 : Int32).toInt = -10 from rfl]; omega)
      · exact h x e
theorem neg_no {w : Int32} (h : w < 0) : ¬ 0 ≤ w := i_le h
theorem stl_dp {r m : Nat} : ∀ (W C : List Int32), wOk W → dpL C = some (biF W + 1) → biF W + 1 ≤ m → okL m C → dpL (stl r W C).2 = some (biF (stl r W C).1 + 1) ∧ biF (stl r W C).1 + 1 ≤ m ∧ okL m (stl r W C).2
  | [], C, _, h, hm, ho => ⟨h, hm, ho⟩
  | w :: W, C, hw, h, hm, ho => by
    rw [stl]
    by_cases c : w = -11 ∨ rkF w < r
    · rw [if_pos c]
      exact ⟨h, hm, ho⟩
    · rw [if_neg c]
      have n11 : ¬ w = -11 := fun z => c (Or.inl z)
      obtain ⟨a1, a2⟩ := hw w List.mem_cons_self
      have hw' : wOk W := fun x hx => hw x (List.mem_cons_of_mem _ hx)
      rw [biF] at h hm
      have key : dpL (w :: C) = some (biF W + 1) := by
        rw [dpL, h]
        show dpS w _ = _
        rw [dpS, if_neg (neg_no a2)]
        by_cases n10 : w = -10
        · rw [if_pos n10, if_pos (Or.inl n10), if_pos (by omega)]
        · have h9 : -9 ≤ w := by
            have h1 := Int32.le_iff_toInt_le.mp a1
            rw [show (-11 : Int32).toInt = -11 from rfl] at h1
            have h2 : w.toInt ≠ -11 := fun z => n11 (Int32.toInt_inj.mp z)
            have h3 : w.toInt ≠ -10 := fun z => n10 (Int32.toInt_inj.mp z)
            exact Int32.le_iff_toInt_le.mpr (by rw [show (-9 : Int32).toInt = -9 from rfl]; omega)
          rw [if_neg n10, if_neg (show ¬ (w = -10 ∨ w = -11) from fun z => z.elim n10 n11), if_pos ⟨by omega, h9⟩]
          congr 1
      have hm' : biF W + 1 ≤ m := by
        have : biF W ≤ biF W + (if w = -10 ∨ w = -11 then 0 else 1) := Nat.le_add_right _ _
        omega
      exact stl_dp W (w :: C) hw' key hm' ⟨ho, _, key, hm'⟩
/-- a stack on which nothing of rank r waits -/
def Sd (r : Nat) (W : List Int32) : Prop := ∀ C, stl r W C = (W, C)
theorem Sd.nil {r : Nat} : Sd r [] := fun _ => rfl
theorem Sd.top {r : Nat} {w : Int32} {W : List Int32} (h : w = -11 ∨ rkF w < r) : Sd r (w :: W) := fun C => by rw [stl, if_pos h]
theorem Sd.up {r r' : Nat} {W : List Int32} (hr : r ≤ r') (h : Sd r W) : Sd r' W := by
  cases W with
  | nil => exact Sd.nil
  | cons w W =>
    have := h []
    rw [stl] at this
    by_cases c : w = -11 ∨ rkF w < r
    · exact Sd.top (c.imp id (fun z => by omega))
    · rw [if_neg c] at this
      have hl := stl_grow (r := r) W (w :: [])
      rw [this] at hl
      simp only [List.length_cons, List.length_nil] at hl
      omega
theorem stl_sd {r r' : Nat} (hr : r ≤ r') : ∀ (W C : List Int32) (W0 C0 : List Int32), stl r' W C = (W0, C0) → stl r W C = stl r W0 C0
  | [], C, W0, C0, h => by
    rw [stl] at h
    cases h
    rfl
  | w :: W, C, W0, C0, h => by
    rw [stl] at h
    by_cases c : w = -11 ∨ rkF w < r'
    · rw [if_pos c] at h
      cases h
      rfl
    · rw [if_neg c] at h
      rw [stl, if_neg (fun z => c (z.imp id (fun y => by omega)))]
      exact stl_sd hr W (w :: C) W0 C0 h
theorem stl_top {r : Nat} {w : Int32} {W C : List Int32} (h1 : ¬ w = -11) (h2 : r ≤ rkF w) : stl r (w :: W) C = stl r W (w :: C) := by
  rw [stl, if_neg (fun z => z.elim h1 (fun y => by omega))]
theorem rk_1 (w : Int32) : 1 ≤ rkF w := by
  unfold rkF
  split <;> (try omega)
  split <;> (try omega)
  split <;> (try omega)
  split <;> (try omega)
  split <;> omega
theorem stl_01 : ∀ (W C : List Int32), stl 0 W C = stl 1 W C
  | [], C => rfl
  | w :: W, C => by
    have h1 := rk_1 w
    rw [stl, stl]
    by_cases c : w = -11
    · rw [if_pos (Or.inl c), if_pos (Or.inl c)]
    · rw [if_neg (fun z => z.elim c (fun y => by omega)), if_neg (fun z => z.elim c (fun y => by omega))]
      exact stl_01 W (w :: C)
theorem stl_open {C : List Int32} : ∀ (W : List Int32), 0 < opF W → ∀ C, ∃ W2, (stl 0 W C).1 = -11 :: W2 ∧ opF W2 + 1 = opF W
  | [], h, _ => absurd h (by decide)
  | w :: W, h, C => by
    rw [stl]
    by_cases c : w = -11
    · rw [if_pos (Or.inl c)]
      exact ⟨W, by rw [c], by rw [opF, if_pos c]⟩
    · rw [if_neg (fun z => z.elim c (fun y => by omega))]
      rw [opF, if_neg c] at h ⊢
      exact stl_open (C := C) W h (w :: C)
