/-! the class's parser against the reference's loop, pure -/
def Rx (b : Nat → Int32) (n key : Nat) (st : PS) (o : OU) : Prop := ∃ f, Rn b n key f st o
section Sm
variable {b : Nat → Int32} {n key par nots at_ s e : Nat} {W C : List Int32} {te : Nat → Bool} {t : Int32} {o : OU}
theorem Rx_not (ht : t = 33) (hn : nots < 8) (h : Rx b n key (true, par, nnF (-10 :: W), -10 :: W, C, at_, te, nxS b n e, nxE b n e, nxK b n e t) o) : Rx b n key (true, par, nots, W, C, at_, te, s, e, t) o := by
  obtain ⟨f, hf⟩ := h
  refine ⟨f + 1, ?_⟩
  rw [Rn, if_neg (fun z => absurd z.1 (by decide)), if_pos rfl, if_pos ⟨ht, hn⟩]
  exact hf
theorem Rx_open (ht : t = 40) (hp : par < 8) (h : Rx b n key (true, par + 1, nnF (-11 :: W), -11 :: W, C, at_, teU te (par + 1) false, nxS b n e, nxE b n e, nxK b n e t) o) : Rx b n key (true, par, nots, W, C, at_, te, s, e, t) o := by
  obtain ⟨f, hf⟩ := h
  refine ⟨f + 1, ?_⟩
  rw [Rn, if_neg (fun z => absurd z.1 (by decide)), if_pos rfl, if_neg (fun z => absurd (z.1.symm.trans ht) (by decide)), if_pos ⟨ht, hp⟩]
  exact hf
theorem Rx_part {c : Int32} (h1 : ¬ (t = 33 ∧ nots < 8)) (h2 : ¬ (t = 40 ∧ par < 8)) (hc : paF b key s e t = some c) (h : Rx b n key (false, par, nnF (stl 6 W (c :: C)).1, (stl 6 W (c :: C)).1, (stl 6 W (c :: C)).2, at_ + 1, te, nxS b n e, nxE b n e, nxK b n e t) o) : Rx b n key (true, par, nots, W, C, at_, te, s, e, t) o := by
  obtain ⟨f, hf⟩ := h
  refine ⟨f + 1, ?_⟩
  rw [Rn, if_neg (fun z => absurd z.1 (by decide)), if_pos rfl, if_neg h1, if_neg h2, hc]
  exact hf
theorem Rx_bad (h1 : ¬ (t = 33 ∧ nots < 8)) (h2 : ¬ (t = 40 ∧ par < 8)) (hc : paF b key s e t = none) : Rx b n key (true, par, nots, W, C, at_, te, s, e, t) (none, s) := by
  refine ⟨1, ?_⟩
  rw [Rn, if_neg (fun z => absurd z.1 (by decide)), if_pos rfl, if_neg h1, if_neg h2, hc]
theorem Rx_close (ht : t = 41) (hp : 0 < par) (h : Rx b n key (false, par - 1, nnF (stl 6 (stl 0 W C).1.tail (stl 0 W C).2).1, (stl 6 (stl 0 W C).1.tail (stl 0 W C).2).1, (stl 6 (stl 0 W C).1.tail (stl 0 W C).2).2, at_, te, nxS b n e, nxE b n e, nxK b n e t) o) : Rx b n key (false, par, nots, W, C, at_, te, s, e, t) o := by
  obtain ⟨f, hf⟩ := h
  refine ⟨f + 1, ?_⟩
  rw [Rn, if_neg (fun z => absurd (z.2.symm.trans ht) (by decide)), if_neg (by decide), if_pos ⟨ht, hp⟩]
  exact hf
theorem sg_41n : sgF 41 = 0 := by decide +kernel
theorem sg_258 : sgF 258 = 0 := by decide +kernel
theorem Rx_op (hg : ¬ sgF t = 0) (h3 : ¬ (rkF (sgF t) = 3 ∧ te par = true)) (h : Rx b n key (true, par, nots, sgF t :: (stl (rkF (sgF t)) W C).1, (stl (rkF (sgF t)) W C).2, at_, teU te par (rkF (sgF t) == 3 || (decide (3 < rkF (sgF t)) && te par)), nxS b n e, nxE b n e, nxK b n e t) o) : Rx b n key (false, par, nots, W, C, at_, te, s, e, t) o := by
  obtain ⟨f, hf⟩ := h
  refine ⟨f + 1, ?_⟩
  rw [Rn, if_neg (fun z => hg (by rw [z.2]; exact sg_258)), if_neg (by decide), if_neg (fun z => hg (by rw [z.1]; exact sg_41n)), if_neg (fun z => z.elim hg h3)]
  exact hf
theorem Rx_stop (h1 : ¬ (t = 258 ∧ par = 0)) (h2 : ¬ (t = 41 ∧ 0 < par)) (h3 : sgF t = 0 ∨ (rkF (sgF t) = 3 ∧ te par = true)) : Rx b n key (false, par, nots, W, C, at_, te, s, e, t) (none, s) := by
  refine ⟨1, ?_⟩
  rw [Rn]
  by_cases c : t = 258
  · rw [if_pos ⟨rfl, c⟩, if_neg (fun z => h1 ⟨c, z⟩)]
  · rw [if_neg (fun z => c z.2), if_neg (by decide), if_neg h2, if_pos h3]
theorem Rx_end {x : Nat} (h1 : t = 258) (h2 : par = 0) : Rx b n key (false, par, nots, W, C, at_, te, s, e, t) (some ((stl 0 W C).2, at_), x) := by
  refine ⟨1, ?_⟩
  rw [Rn, if_pos ⟨rfl, h1⟩, if_pos h2]
end Sm
/-- a token at which level r goes no further -/
def NC (r : Nat) (t : Int32) (x : Bool) : Prop := ¬ sgF t = 0 → rkF (sgF t) < r ∨ (rkF (sgF t) = 3 ∧ x = true)
theorem sg_one {t : Int32} (h : ¬ sgF t = 0) : t = 124 ∨ t = 38 ∨ t = 60 ∨ t = 61 ∨ t = 62 ∨ t = 43 ∨ t = 45 ∨ t = 42 ∨ t = 47 := by
  unfold sgF at h
  by_cases h1 : t = 124
  · exact Or.inl h1
  by_cases h2 : t = 38
  · exact Or.inr (Or.inl h2)
  by_cases h3 : t = 60
  · exact Or.inr (Or.inr (Or.inl h3))
  by_cases h4 : t = 61
  · exact Or.inr (Or.inr (Or.inr (Or.inl h4)))
  by_cases h5 : t = 62
  · exact Or.inr (Or.inr (Or.inr (Or.inr (Or.inl h5))))
  by_cases h6 : t = 43
  · exact Or.inr (Or.inr (Or.inr (Or.inr (Or.inr (Or.inl h6)))))
  by_cases h7 : t = 45
  · exact Or.inr (Or.inr (Or.inr (Or.inr (Or.inr (Or.inr (Or.inl h7))))))
  by_cases h8 : t = 42
  · exact Or.inr (Or.inr (Or.inr (Or.inr (Or.inr (Or.inr (Or.inr (Or.inl h8)))))))
  by_cases h9 : t = 47
  · exact Or.inr (Or.inr (Or.inr (Or.inr (Or.inr (Or.inr (Or.inr (Or.inr h9)))))))
  rw [if_neg h1, if_neg h2, if_neg h3, if_neg h4, if_neg h5, if_neg h6, if_neg h7, if_neg h8, if_neg h9] at h
  exact absurd rfl h
/-- the signs of a level -/
def sgL (r : Nat) (t : Int32) : Prop := (r = 1 ∧ t = 124) ∨ (r = 2 ∧ t = 38) ∨ (r = 3 ∧ (t = 60 ∨ t = 61 ∨ t = 62)) ∨ (r = 4 ∧ (t = 43 ∨ t = 45)) ∨ (r = 5 ∧ (t = 42 ∨ t = 47))
theorem sgL_ok {r : Nat} {t : Int32} (h : sgL r t) : ¬ sgF t = 0 ∧ rkF (sgF t) = r := by
  rcases h with ⟨rfl, rfl⟩ | ⟨rfl, rfl⟩ | ⟨rfl, rfl | rfl | rfl⟩ | ⟨rfl, rfl | rfl⟩ | ⟨rfl, rfl | rfl⟩ <;> exact ⟨by decide +kernel, by decide +kernel⟩
theorem sgL_of {t : Int32} (h : ¬ sgF t = 0) : sgL (rkF (sgF t)) t := by
  rcases sg_one h with rfl | rfl | rfl | rfl | rfl | rfl | rfl | rfl | rfl
  · exact Or.inl ⟨by decide +kernel, rfl⟩
  · exact Or.inr (Or.inl ⟨by decide +kernel, rfl⟩)
  · exact Or.inr (Or.inr (Or.inl ⟨by decide +kernel, Or.inl rfl⟩))
  · exact Or.inr (Or.inr (Or.inl ⟨by decide +kernel, Or.inr (Or.inl rfl)⟩))
  · exact Or.inr (Or.inr (Or.inl ⟨by decide +kernel, Or.inr (Or.inr rfl)⟩))
  · exact Or.inr (Or.inr (Or.inr (Or.inl ⟨by decide +kernel, Or.inl rfl⟩)))
  · exact Or.inr (Or.inr (Or.inr (Or.inl ⟨by decide +kernel, Or.inr rfl⟩)))
  · exact Or.inr (Or.inr (Or.inr (Or.inr ⟨by decide +kernel, Or.inl rfl⟩)))
  · exact Or.inr (Or.inr (Or.inr (Or.inr ⟨by decide +kernel, Or.inr rfl⟩)))
theorem NC_6 {t : Int32} {x : Bool} : NC 6 t x := fun h => Or.inl (by
  have := sgL_of h
  rcases this with ⟨a, -⟩ | ⟨a, -⟩ | ⟨a, -⟩ | ⟨a, -⟩ | ⟨a, -⟩ <;> omega)
theorem NC_down {r : Nat} {t : Int32} {x : Bool} (h : NC (r + 1) t x) (hn : ¬ sgL r t) : NC r t x := fun hg => by
  rcases h hg with a | a
  · refine Or.inl ?_
    have h2 := sgL_of hg
    have : ¬ rkF (sgF t) = r := fun z => hn (z ▸ h2)
    omega
  · exact Or.inr a
theorem NC_3 {t : Int32} {x : Bool} (h : NC 4 t x) (hn : x = true ∨ ¬ sgL 3 t) : NC 3 t x := fun hg => by
  rcases h hg with a | a
  · by_cases c : rkF (sgF t) = 3
    · refine Or.inr ⟨c, hn.elim id (fun z => absurd (c ▸ sgL_of hg) z)⟩
    · exact Or.inl (by omega)
  · exact Or.inr a
/-- the class's text under way -/
def CPS (S : SS) (τ : Nat) (Cc : List Int32) (at_ : Nat) : Prop := S (86 + 3 * τ) 3 = nI Cc.length ∧ arL (S (86 + 3 * τ + 1)) (Cc.map trC) ∧ S (86 + 3 * τ) 2 = nI at_
/-- how the class's level r stands to the reference: behind level k, beyond the place lo, with R0 for all before -/
def GP (b : Nat → Int32) (n key τ r k par lo : Nat) (W : List Int32) (te0 : Nat → Bool) (R0 : OU → Prop) (S : SS) : Prop := ∃ (nots : Nat) (W' C' : List Int32) (at' : Nat) (te' : Nat → Bool) (s e : Nat) (t : Int32) (Cc : List Int32), MKc S s e t ∧ CPS S τ Cc at' ∧ PIn b n key (false, par, nots, W', C', at', te', s, e, t) ∧ (r ≤ 5 → stl r W' C' = (W, Cc)) ∧ (r = 6 → stl 6 W Cc = (W', C')) ∧ (∀ q, q < par → te' q = te0 q) ∧ (4 ≤ r → te' par = te0 par) ∧ NC k t (te' par) ∧ lo < s ∧ ∀ o, Rx b n key (false, par, nots, W', C', at', te', s, e, t) o → R0 o
/-- and how it stands where a fault was found -/
def HL (τ : Nat) (S : SS) : Prop := ∃ q, S (86 + 3 * τ) 3 = nI q ∧ q ≤ 96
def FltP (τ : Nat) (R0 : OU → Prop) (S : SS) : Prop := HL τ S ∧ ∃ s, S 3 2 = nI s ∧ R0 (none, s)
