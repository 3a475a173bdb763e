/-! what is known of the constants stays known -/
theorem STX.kept {adK adV : Nat → Nat} {fv : Value} {Θ : Th} {U : State} {H H1 : Heap} (h : ∀ q : Nat, q < tb Θ → H1[q]? = H[q]?) (hX : STX adK adV fv Θ U H) : STX adK adV fv Θ U H1 := by
  obtain ⟨h1, h2, h3, h4⟩ := hX
  have hq : ∀ a : Nat, a < H.size → ¬ AA Θ a → H1[a]? = H[a]? := fun a _ hA => h a (Nat.not_le.mp hA)
  exact ⟨h1.kept hq, h2, h3.kept hq, h4.kept hq⟩
theorem STX.warm {adK adV : Nat → Nat} {fv : Value} {Θ : Th} {u U : State} {H : Heap} (hW : u.WarmedH U.vm) (hX : STX adK adV fv Θ u H) : STX adK adV fv Θ U H := by
  obtain ⟨h1, h2, h3, h4⟩ := hX
  exact ⟨h1.moved hW.alike, fun i hi => (h2 i hi).warm hW, h3.moved hW.alike, h4.moved hW.alike⟩
theorem STX.same {adK adV : Nat → Nat} {fv : Value} {Θ : Th} {u U : State} {H : Heap} (hv : u.vm = U.vm) (hX : STX adK adV fv Θ u H) : STX adK adV fv Θ U H := by
  obtain ⟨h1, h2, h3, h4⟩ := hX
  have ha : u.vm.Alike U.vm := hv ▸ Vm.Alike.refl u.vm
  exact ⟨h1.moved ha, fun i hi => (h2 i hi).same hv.symm, h3.moved ha, h4.moved ha⟩
