/-! how many pairs -/
def pL (q : Nat → Bool) (F : Nat → Nat) : Nat → Nat → Nat
  | 0, most => most
  | f + 1, most => pL q F f (if q (8 - f) then (if most < 1 + F (8 - f) then 1 + F (8 - f) else most) else most)
def pH (pr : Nat → Nat → Bool) : Nat → (Nat → Bool) → Nat
  | 0, _ => 0
  | f + 1, b => if b (8 - f) then pL (fun o => b o && pr (8 - f) o) (fun o => pH pr f (fun k => b k && k != o)) f (pH pr f b) else pH pr f b
theorem pL_congr {q q' : Nat → Bool} {F F' : Nat → Nat} : ∀ (f most : Nat), f ≤ 9 → (∀ o, 9 - f ≤ o → o < 9 → q o = q' o) → (∀ o, 9 - f ≤ o → o < 9 → q o = true → F o = F' o) → pL q F f most = pL q' F' f most
  | 0, _, _, _, _ => rfl
  | f + 1, most, hf, h1, h2 => by
    rw [pL, pL, pL_congr f _ (by omega) (fun o a b => h1 o (by omega) b) (fun o a b => h2 o (by omega) b), ← h1 (8 - f) (by omega) (by omega)]
    by_cases h : q (8 - f) = true
    · rw [if_pos h, if_pos h, h2 (8 - f) (by omega) (by omega) h]
    · rw [if_neg h, if_neg h]
theorem pL_no {q : Nat → Bool} {F : Nat → Nat} : ∀ (f most : Nat), f ≤ 9 → (∀ o, 9 - f ≤ o → o < 9 → q o = false) → pL q F f most = most
  | 0, _, _, _ => rfl
  | f + 1, most, hf, h => by
    rw [pL, h (8 - f) (by omega) (by omega), if_neg (by decide)]
    exact pL_no f most (by omega) (fun o a b => h o (by omega) b)
theorem pL_le {q : Nat → Bool} {F : Nat → Nat} {n : Nat} (hF : ∀ o, F o ≤ n) : ∀ (f most : Nat), most ≤ n + 1 → pL q F f most ≤ n + 1
  | 0, _, h => h
  | f + 1, most, h => by
    rw [pL]
    refine pL_le hF f _ ?_
    have := hF (8 - f)
    split
    · split <;> omega
    · exact h
theorem pH_le {pr : Nat → Nat → Bool} : ∀ (f : Nat) (b : Nat → Bool), pH pr f b ≤ f
  | 0, _ => Nat.le_refl _
  | f + 1, b => by
    rw [pH]
    have := pH_le (pr := pr) f b
    split
    · exact pL_le (fun o => pH_le f _) f _ (by omega)
    · omega
theorem pH_congr {pr : Nat → Nat → Bool} : ∀ (f : Nat) (b b' : Nat → Bool), f ≤ 9 → (∀ k, 9 - f ≤ k → k < 9 → b k = b' k) → pH pr f b = pH pr f b'
  | 0, _, _, _, _ => rfl
  | f + 1, b, b', hf, h => by
    rw [pH, pH, h (8 - f) (by omega) (by omega), pH_congr f b b' (by omega) (fun k a c => h k (by omega) c)]
    rw [pL_congr f _ (by omega) (fun o a c => by rw [h o (by omega) c]) (fun o a c _ => pH_congr f _ _ (by omega) (fun k a' c' => by rw [h k (by omega) c']))]
theorem pH_skip {pr : Nat → Nat → Bool} {b : Nat → Bool} {f : Nat} : ∀ n, f + n ≤ 9 → (∀ k, 9 - (f + n) ≤ k → k < 9 - f → b k = false) → pH pr (f + n) b = pH pr f b
  | 0, _, _ => rfl
  | n + 1, hn, h => by
    rw [← Nat.add_assoc, pH, h (8 - (f + n)) (by omega) (by omega), if_neg (by decide)]
    exact pH_skip n (by omega) (fun k a c => h k (by omega) c)
theorem pH_B {pr : Nat → Nat → Bool} {B : Nat → Bool} (hB : ∀ p o, pr p o = true → B p = true ∧ B o = true) : ∀ (f : Nat) (b : Nat → Bool), f ≤ 9 → pH pr f b = pH pr f (fun k => b k && B k)
  | 0, _, _ => rfl
  | f + 1, b, hf => by
    rw [pH, pH, pH_B hB f b (by omega)]
    by_cases h1 : b (8 - f) = true
    · rw [if_pos h1]
      by_cases h2 : B (8 - f) = true
      · rw [if_pos (by rw [h1, h2]; rfl)]
        refine pL_congr f _ (by omega) (fun o _ _ => ?_) (fun o _ _ _ => ?_)
        · cases hp : pr (8 - f) o
          · rw [Bool.and_false, Bool.and_false]
          · rw [(hB _ _ hp).2, Bool.and_true, Bool.and_true]
        · rw [pH_B hB f _ (by omega)]
          exact pH_congr f _ _ (by omega) (fun k _ _ => by cases b k <;> cases B k <;> cases (k != o) <;> rfl)
      · rw [if_neg (by rw [h1]; exact h2)]
        refine pL_no f _ (by omega) (fun o _ _ => ?_)
        cases hp : pr (8 - f) o
        · exact Bool.and_false _
        · exact absurd (hB _ _ hp).1 h2
    · rw [if_neg h1, if_neg (fun h => h1 (Bool.and_eq_true_iff.mp h).1)]
/-- a set by what is in it -/
def smF (t : Nat → Bool) : Nat → Nat
  | 0 => 0
  | n + 1 => smF t n + (if t n then 2 ^ n else 0)
theorem sm_lt {t : Nat → Bool} : ∀ n, smF t n < 2 ^ n
  | 0 => Nat.one_pos
  | n + 1 => by
    have := sm_lt (t := t) n
    rw [smF, Nat.pow_succ]
    split <;> omega
theorem pow9 {n : Nat} (h : n ≤ 9) : 2 ^ n ≤ 512 := Nat.pow_le_pow_right (n := 2) (by decide) h
theorem sm_5 {t : Nat → Bool} {n : Nat} (h : n ≤ 9) : smF t n < 512 := Nat.lt_of_lt_of_le (sm_lt n) (pow9 h)
theorem bo_sm {t : Nat → Bool} {k : Nat} (hk : k < 9) : ∀ n, n ≤ 9 → bo (smF t n) k = (decide (k < n) && t k)
  | 0, _ => fbo_0 ⟨k, hk⟩
  | n + 1, hn => by
    have ih := bo_sm (t := t) hk n (by omega)
    rw [smF]
    by_cases ht : t n = true
    · rw [if_pos ht, bo_add (sm_5 (by omega)) (by omega) hk (sm_lt n)]
      by_cases e : k = n
      · rw [if_pos e, e, ht, decide_eq_true (show n < n + 1 by omega)]
        rfl
      · rw [if_neg e, ih]
        congr 1
        exact decide_eq_decide.mpr (by omega)
    · rw [if_neg ht, Nat.add_zero, ih]
      by_cases e : k = n
      · rw [e, show t n = false by cases hh : t n; · rfl
                                   · exact absurd hh ht, Bool.and_false, Bool.and_false]
      · congr 1
        exact decide_eq_decide.mpr (by omega)
theorem sm_no {t : Nat → Bool} : ∀ n, (∀ k, k < n → t k = false) → smF t n = 0
  | 0, _ => rfl
  | n + 1, h => by rw [smF, sm_no n (fun k hk => h k (by omega)), h n (by omega)]; rfl
theorem so_1 {v : WV} {p o : Nat} (i : Nat) : i ≤ 6 → (soF v p o i).1 = nobody → (soF v p o i).2 = 41 := by
  induction i with
  | zero => exact fun _ _ => rfl
  | succ i ih =>
    intro hi
    by_cases h : ovN v p o i < (soF v p o i).2
    · rw [so_new h]
      exact fun e => absurd e (nob_ne (by omega))
    · rw [so_keep h]
      exact ih (by omega)
theorem so_stay {v : WV} {p o i : Nat} (h : ¬ (soF v p o i).1 = nobody) (hi : i < 6) : ¬ (soF v p o (i + 1)).1 = nobody := by
  by_cases c : ovN v p o i < (soF v p o i).2
  · rw [so_new c]
    exact nob_ne (by omega)
  · rw [so_keep c]
    exact h
theorem so_mono {v : WV} {p o i : Nat} (h : ¬ (soF v p o i).1 = nobody) : ∀ f, i + f = 6 → ¬ (soF v p o 6).1 = nobody
  | 0, e => by
    obtain rfl : i = 6 := by omega
    exact h
  | f + 1, e => so_mono (i := i + 1) (so_stay h (by omega)) f (by omega)
theorem so_next {v : WV} {p o i : Nat} (h : (soF v p o i).1 = nobody) (hi : i < 6) : (soF v p o (i + 1)).1 = nobody ↔ ovI (ovN v p o i) = nobody := by
  have l := ovN_le (v := v) (p := p) (o := o) (j := i)
  have e := so_1 i (by omega) h
  rw [ovI_no l]
  by_cases c : ovN v p o i < (soF v p o i).2
  · rw [so_new c]
    rw [e] at c
    exact ⟨fun g => absurd g (nob_ne (by omega)), fun g => absurd c (by omega)⟩
  · rw [so_keep c]
    rw [e] at c
    exact ⟨fun _ => by omega, fun _ => h⟩
def prF (v : WV) (bk : Int32) (p o : Nat) : Bool := decide (p < o ∧ o < mN v ∧ v (16 + 9 * p) = bk ∧ v (16 + 9 * o) = bk ∧ ¬ (soF v p o 6).1 = nobody)
def bkF (v : WV) (bk : Int32) (p : Nat) : Bool := decide (v (16 + 9 * p) = bk)
def pairsR (v : WV) (x : Int32) : Int32 := (ix x 2).elim bad fun _ => nI (pH (prF v x) 9 (bo (2 ^ mN v - 1)))
theorem pr_B {v : WV} {bk : Int32} (p o : Nat) (h : prF v bk p o = true) : (decide (p < mN v) && bkF v bk p) = true ∧ (decide (o < mN v) && bkF v bk o) = true := by
  have h := of_decide_eq_true h
  exact ⟨by rw [decide_eq_true (show p < mN v by omega), bkF, decide_eq_true h.2.2.1]; rfl, by rw [decide_eq_true h.2.1, bkF, decide_eq_true h.2.2.2.1]; rfl⟩
theorem pairs_eq {v : WV} {bk : Int32} {m : Nat} (hmm : mN v = m) (hm9 : m ≤ 9) : pH (prF v bk) 9 (bo (2 ^ m - 1)) = pH (prF v bk) 9 (bo (smF (bkF v bk) m)) := by
  rw [pH_B (B := fun k => decide (k < m) && bkF v bk k) (fun p o h => by have := pr_B p o h; rw [hmm] at this; exact this) 9 _ (by omega)]
  refine pH_congr 9 _ _ (by omega) (fun k _ hk => ?_)
  rw [bo_allk hm9 hk, bo_sm hk m hm9]
  cases decide (k < m) <;> rfl

