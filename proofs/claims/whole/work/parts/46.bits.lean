/-! sets of passengers as bits; how many pairs -/
def bo (g k : Nat) : Bool := g / 2 ^ k % 2 == 1
def rmB (g o : Nat) : Nat := if bo g o then g - 2 ^ o else g
def lsF (g : Nat) : Nat → Nat
  | 0 => 9
  | f + 1 => if bo g (8 - f) then 8 - f else lsF g f
def lsb (g : Nat) : Nat := lsF g 9
theorem fbo_rm : ∀ (g : Fin 512) (o k : Fin 9), bo (rmB g.val o.val) k.val = (bo g.val k.val && k.val != o.val) := by decide +kernel
theorem fbo_lt : ∀ (g : Fin 512) (o : Fin 9), rmB g.val o.val < 512 ∧ (bo g.val o.val = true → rmB g.val o.val < g.val) := by decide +kernel
theorem fbo_sh : ∀ (g : Fin 512) (o : Fin 9), (nI g.val >>> (nI o.val &&& 31)) &&& 1 = nI (if bo g.val o.val then 1 else 0) := by decide +kernel
theorem fbo_cl : ∀ (g : Fin 512) (o : Fin 9), nI g.val &&& ((1 <<< (nI o.val &&& 31)) ^^^ (-1)) = nI (rmB g.val o.val) := by decide +kernel
theorem fbo_x : ∀ (g : Fin 512) (o : Fin 9), bo g.val o.val = true → nI g.val ^^^ (1 <<< (nI o.val &&& 31)) = nI (rmB g.val o.val) := by decide +kernel
theorem fbo_low : ∀ g : Fin 512, g.val ≠ 0 → nI g.val &&& (nI g.val - 1) = nI (rmB g.val (lsb g.val)) ∧ bo g.val (lsb g.val) = true ∧ lsb g.val < 9 ∧ (nI g.val ^^^ (-1)) &&& (nI g.val - 1) = nI (2 ^ lsb g.val - 1) := by decide +kernel
theorem fls_min : ∀ (g : Fin 512) (k : Fin 9), k.val < lsb g.val → bo g.val k.val = false := by decide +kernel
theorem fbo_and : ∀ (g : Fin 512) (o : Fin 9), (nI g.val &&& (1 <<< (nI o.val &&& 31)) = 0) ↔ bo g.val o.val = false := by decide +kernel
theorem fbo_or : ∀ (a : Fin 512) (k : Fin 9), a.val < 2 ^ k.val → nI a.val ||| (1 <<< (nI k.val &&& 31)) = nI (a.val + 2 ^ k.val) := by decide +kernel
theorem fbo_add : ∀ (a : Fin 512) (n o : Fin 9), a.val < 2 ^ n.val → bo (a.val + 2 ^ n.val) o.val = (if o.val = n.val then true else bo a.val o.val) := by decide +kernel
theorem fbo_two : ∀ (g : Fin 512) (p o : Fin 9), ((nI g.val >>> (nI p.val &&& 31)) &&& (nI g.val >>> (nI o.val &&& 31)) &&& 1 = 1) ↔ (bo g.val p.val && bo g.val o.val) = true := by decide +kernel
theorem fbo_all : ∀ (m : Fin 10), (1 <<< (nI m.val &&& 31) : Int32) - 1 = nI (2 ^ m.val - 1) ∧ 2 ^ m.val - 1 < 512 ∧ ∀ k : Fin 9, bo (2 ^ m.val - 1) k.val = decide (k.val < m.val) := by decide +kernel
theorem fbo_0 : ∀ k : Fin 9, bo 0 k.val = false := by decide +kernel
theorem bo_rm {g o k : Nat} (hg : g < 512) (ho : o < 9) (hk : k < 9) : bo (rmB g o) k = (bo g k && k != o) := fbo_rm ⟨g, hg⟩ ⟨o, ho⟩ ⟨k, hk⟩
theorem rm_lt {g o : Nat} (hg : g < 512) (ho : o < 9) : rmB g o < 512 := (fbo_lt ⟨g, hg⟩ ⟨o, ho⟩).1
theorem rm_ls {g o : Nat} (hg : g < 512) (ho : o < 9) (h : bo g o = true) : rmB g o < g := (fbo_lt ⟨g, hg⟩ ⟨o, ho⟩).2 h
theorem bo_sh {g o : Nat} (hg : g < 512) (ho : o < 9) : (nI g >>> (nI o &&& 31)) &&& 1 = nI (if bo g o then 1 else 0) := fbo_sh ⟨g, hg⟩ ⟨o, ho⟩
theorem bo_cl {g o : Nat} (hg : g < 512) (ho : o < 9) : nI g &&& ((1 <<< (nI o &&& 31)) ^^^ (-1)) = nI (rmB g o) := fbo_cl ⟨g, hg⟩ ⟨o, ho⟩
theorem bo_x {g o : Nat} (hg : g < 512) (ho : o < 9) (h : bo g o = true) : nI g ^^^ (1 <<< (nI o &&& 31)) = nI (rmB g o) := fbo_x ⟨g, hg⟩ ⟨o, ho⟩ h
theorem bo_low {g : Nat} (hg : g < 512) (h : g ≠ 0) : nI g &&& (nI g - 1) = nI (rmB g (lsb g)) ∧ bo g (lsb g) = true ∧ lsb g < 9 ∧ (nI g ^^^ (-1)) &&& (nI g - 1) = nI (2 ^ lsb g - 1) := fbo_low ⟨g, hg⟩ h
theorem ls_min {g k : Nat} (hg : g < 512) (hk : k < 9) (h : k < lsb g) : bo g k = false := fls_min ⟨g, hg⟩ ⟨k, hk⟩ h
theorem bo_and {g o : Nat} (hg : g < 512) (ho : o < 9) : (nI g &&& (1 <<< (nI o &&& 31)) = 0) ↔ bo g o = false := fbo_and ⟨g, hg⟩ ⟨o, ho⟩
theorem bo_or {a k : Nat} (ha : a < 512) (hk : k < 9) (h : a < 2 ^ k) : nI a ||| (1 <<< (nI k &&& 31)) = nI (a + 2 ^ k) := fbo_or ⟨a, ha⟩ ⟨k, hk⟩ h
theorem bo_add {a n k : Nat} (ha : a < 512) (hn : n < 9) (hk : k < 9) (h : a < 2 ^ n) : bo (a + 2 ^ n) k = (if k = n then true else bo a k) := fbo_add ⟨a, ha⟩ ⟨n, hn⟩ ⟨k, hk⟩ h
theorem bo_two {g p o : Nat} (hg : g < 512) (hp : p < 9) (ho : o < 9) : ((nI g >>> (nI p &&& 31)) &&& (nI g >>> (nI o &&& 31)) &&& 1 = 1) ↔ (bo g p && bo g o) = true := fbo_two ⟨g, hg⟩ ⟨p, hp⟩ ⟨o, ho⟩
theorem bo_all {m : Nat} (hm : m ≤ 9) : (1 <<< (nI m &&& 31) : Int32) - 1 = nI (2 ^ m - 1) := (fbo_all ⟨m, by omega⟩).1
theorem all_lt {m : Nat} (hm : m ≤ 9) : 2 ^ m - 1 < 512 := (fbo_all ⟨m, by omega⟩).2.1
theorem bo_allk {m k : Nat} (hm : m ≤ 9) (hk : k < 9) : bo (2 ^ m - 1) k = decide (k < m) := (fbo_all ⟨m, by omega⟩).2.2 ⟨k, hk⟩
theorem land_nI {a b : Nat} (ha : a < 512) (hb : b < 512) : nI a &&& nI b = nI (a &&& b) := by
  have h : (a &&& b) < 512 := Nat.and_lt_two_pow (n := 9) a hb
  apply Int32.toBitVec_inj.mp
  apply BitVec.eq_of_toNat_eq
  rw [Int32.toBitVec_and, BitVec.toNat_and, pk_tn (by omega), pk_tn (by omega), pk_tn (by omega)]
theorem bo_tb {g k : Nat} : bo g k = g.testBit k := by
  rw [Nat.testBit_eq_decide_div_mod_eq, bo]
  by_cases h : g / 2 ^ k % 2 = 1
  · simp [h]
  · simp [h]
theorem bo_land {a b k : Nat} : bo (a &&& b) k = (bo a k && bo b k) := by rw [bo_tb, bo_tb, bo_tb, Nat.testBit_and]
theorem bo_and3 {a b o : Nat} (ha : a < 512) (hb : b < 512) (ho : o < 9) : (nI a &&& nI b &&& (1 <<< (nI o &&& 31)) = 0) ↔ (bo a o && bo b o) = false := by
  rw [land_nI ha hb, bo_and (Nat.and_lt_two_pow (n := 9) a hb) ho, bo_land]
