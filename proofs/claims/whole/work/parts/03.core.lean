/-! THE CORE: a frame of the machine over a heap that is a function of the place behind a base; rows an instruction; contracts. -/
abbrev HP : Type := Nat → va_E
abbrev LV : Type := List (Nat × Value)
abbrev Th : Type := Launch × va_G × (Nat → ClassId) × Nat × (State → Heap → Prop)
abbrev tL (Θ : Th) : Launch := Θ.1
abbrev tD (Θ : Th) : va_G := Θ.2.1
abbrev tk (Θ : Th) : Nat → ClassId := Θ.2.2.1
abbrev tb (Θ : Th) : Nat := Θ.2.2.2.1
abbrev tX (Θ : Th) : State → Heap → Prop := Θ.2.2.2.2
def tys (Θ : Th) : List (ClassId × FieldType) := [(tk Θ 0, .int), (tk Θ 1, .char), (tk Θ 2, .boolean), (tk Θ 3, .object RX3), (tk Θ 4, .object RX4), (tk Θ 5, .object RX5), (tk Θ 6, .object RX8)]
abbrev iA (Θ : Th) (t n : Nat) (f : Nat → Int32) : va_E := .inl (tk Θ t, n, .inl f)
abbrev rA (Θ : Th) (t n : Nat) (f : Nat → Option Nat) : va_E := .inl (tk Θ t, n, .inr (.inr (.inr (.inr f))))
abbrev oB (ci : Nat) (fs : List Value) : va_E := .inr (ci, fs)
def nestW : Cond → Bool
  | .fieldLinkNest .. => true
  | .methodLinkNest .. => true
  | .castable .. => true
  | _ => false
theorem nw_tab {w : Cond} (hw : nestW w = true) : w.onTables = true := by
  cases w <;> first | rfl | cases hw
theorem nw_warm {w : Cond} (hw : nestW w = true) {s U : State} (hW : s.WarmedH U.vm) (h : va_Nw w s) : va_Nw w U := by
  cases w <;> first | exact va_Nw.warmF hW h | exact va_Nw.warmM hW h | exact va_Nw.warmC hW h | cases hw
def aoL : List String := [RX3, RX4, RX5, RX8]
def Tw (U : State) : Prop := (∀ w ∈ lw_tbl, nestW w = true → va_Nw w U) ∧ ∀ C ∈ aoL, va_AO C U
theorem Tw.warm {s U : State} (hW : s.WarmedH U.vm) (h : Tw s) : Tw U := ⟨fun w a b => nw_warm b hW (h.1 w a b), fun C a => (h.2 C a).moved hW.alike⟩
theorem Tw.same {s U : State} (hv : s.vm = U.vm) (h : Tw s) : Tw U := ⟨fun w a b => va_Nw.same (nw_tab b) hv (h.1 w a b), fun C a => (h.2 C a).moved (hv ▸ Vm.Alike.refl s.vm)⟩
def OkX (Θ : Th) : Prop := (∀ (U : State) (H H1 : Heap), (∀ q : Nat, q < tb Θ → H1[q]? = H[q]?) → tX Θ U H → tX Θ U H1) ∧ (∀ (u U : State) (H : Heap), u.WarmedH U.vm → tX Θ u H → tX Θ U H) ∧ ∀ (u U : State) (H : Heap), u.vm = U.vm → tX Θ u H → tX Θ U H
def Uw (Θ : Th) (U : State) : Prop := va_K (tD Θ) vwCl (tys Θ) U ∧ Tw U ∧ OkX Θ
theorem Uw.warm {Θ : Th} {s U : State} (hW : s.WarmedH U.vm) (h : Uw Θ s) : Uw Θ U := ⟨va_K.moved hW.alike h.1, h.2.1.warm hW, h.2.2⟩
theorem Uw.same {Θ : Th} {s U : State} (hv : s.vm = U.vm) (h : Uw Θ s) : Uw Θ U := ⟨va_K.moved (hv ▸ Vm.Alike.refl s.vm) h.1, h.2.1.same hv, h.2.2⟩
/-! the cells as a list -/
def wl (b n : Nat) (G : HP) : va_W := (List.range n).map (fun k => (b + k, G k))
theorem wl_get {b n k : Nat} {G : HP} (h : k < n) : (wl b n G)[k]? = some (b + k, G k) := by simp [wl, h]
theorem wl_of {b n k : Nat} {G : HP} {q : Nat × va_E} (h : (wl b n G)[k]? = some q) : k < n ∧ q = (b + k, G k) := by
  by_cases hk : k < n
  · rw [wl_get hk] at h
    exact ⟨hk, (Option.some.inj h).symm⟩
  · simp [wl, hk] at h
theorem wl_at {b n k : Nat} {G : HP} {e : va_E} (h : k < n) (he : G k = e) : (wl b n G)[k]? = some (b + k, e) := by rw [wl_get h, he]
theorem wl_len {b n : Nat} {G : HP} : (wl b n G).length = n := by simp [wl]
theorem wl_ext {b n : Nat} {l : va_W} {G : HP} (hl : l.length = n) (h : ∀ k, k < n → l[k]? = some (b + k, G k)) : l = wl b n G := by
  apply List.ext_getElem?
  intro k
  by_cases hk : k < n
  · rw [h k hk, wl_get hk]
  · rw [List.getElem?_eq_none (by omega), List.getElem?_eq_none (by rw [wl_len]; omega)]
theorem wl_set {b n k : Nat} {G : HP} {e : va_E} (h : k < n) : (wl b n G).set k (b + k, e) = wl b n (va_up G k e) := by
  apply wl_ext
  · rw [List.length_set, wl_len]
  · intro j hj
    by_cases hjk : j = k
    · subst hjk
      rw [List.getElem?_set_self (by rw [wl_len]; exact h)]
      simp [va_up]
    · rw [List.getElem?_set_ne (Ne.symm hjk), wl_get hj]
      simp [va_up, hjk]
theorem wl_push {b n : Nat} {G : HP} {e : va_E} : wl b n G ++ [(b + n, e)] = wl b (n + 1) (va_up G n e) := by
  apply wl_ext
  · rw [List.length_append, wl_len]; rfl
  · intro j hj
    by_cases hjk : j = n
    · subst hjk
      rw [List.getElem?_append_right (by rw [wl_len]; exact Nat.le_refl _), wl_len, Nat.sub_self]
      simp [va_up]
    · rw [List.getElem?_append_left (by rw [wl_len]; omega), wl_get (by omega)]
      simp [va_up, hjk]
def AA (Θ : Th) : Nat → Prop := fun q => tb Θ ≤ q
theorem wl_D {Θ : Th} {n : Nat} {G : HP} : va_D (AA Θ) (wl (tb Θ) n G) := by
  refine ⟨fun i j p q hi hj e => ?_, fun k q hk => ?_⟩
  · obtain ⟨-, rfl⟩ := wl_of hi
    obtain ⟨-, rfl⟩ := wl_of hj
    simp only at e
    omega
  · obtain ⟨-, rfl⟩ := wl_of hk
    exact Nat.le_add_right _ _
def Hs (Θ : Th) (n : Nat) (G : HP) (H : Heap) : Prop := va_P (tD Θ) vwCl (wl (tb Θ) n G) H
/-! the locals: what is found first in a list -/
def lk : LV → Nat → Option Value
  | [], _ => none
  | (j, v) :: r, i => if j = i then some v else lk r i
def Lh (la : Array Slot) (nL : Nat) (ls : LV) : Prop := la.size = nL ∧ lv_wf la ∧ ∀ (i : Nat) (v : Value), lk ls i = some v → la[i]? = some (.val v) ∧ v.category = 1
def cn (nL : Nat) (ls : LV) : LV := (List.range nL).filterMap (fun j => (lk ls j).map (fun w => (j, w)))
theorem Lh.has {la : Array Slot} {nL : Nat} {ls : LV} (h : Lh la nL ls) : lv_has la nL (cn nL ls) := by
  refine ⟨h.1, h.2.1, fun q hq => ?_⟩
  obtain ⟨j, -, hj⟩ := List.mem_filterMap.mp hq
  cases hl : lk ls j with
  | none => rw [hl] at hj; cases hj
  | some w =>
    rw [hl] at hj
    cases hj
    exact (h.2.2 j w hl).1
theorem Lh.store {la la' : Array Slot} {nL : Nat} {ls : LV} {i : Nat} {v : Value} (h : Lh la nL ls) (hv : v.category = 1) (h' : lv_has la' nL ((i, v) :: (cn nL ls).filter (fun q => !(q.1 == i) && !(q.1 + 1 == i && q.2.category == 2)))) : Lh la' nL ((i, v) :: ls) := by
  refine ⟨h'.1, h'.2.1, fun j w hj => ?_⟩
  unfold lk at hj
  by_cases e : i = j
  · rw [if_pos e] at hj
    cases hj
    subst e
    exact ⟨h'.2.2 (i, v) List.mem_cons_self, hv⟩
  · rw [if_neg e] at hj
    obtain ⟨h1, h2⟩ := h.2.2 j w hj
    have hlt : j < nL := by rw [← h.1]; exact lv_lt h1
    refine ⟨h'.2.2 (j, w) (List.mem_cons_of_mem _ (List.mem_filter.mpr ⟨List.mem_filterMap.mpr ⟨j, List.mem_range.mpr hlt, by rw [hj]; rfl⟩, ?_⟩)), h2⟩
    simp [Ne.symm e, h2]
theorem Lh.to {la : Array Slot} {nL : Nat} {ls ls' : LV} (h : Lh la nL ls) (hs : ∀ (i : Nat) (v : Value), lk ls' i = some v → lk ls i = some v) : Lh la nL ls' := ⟨h.1, h.2.1, fun i v e => h.2.2 i v (hs i v e)⟩
def lsub : LV → LV → Prop
  | [], _ => True
  | (i, v) :: r, ls => lk ls i = some v ∧ lsub r ls
theorem lsub.to : ∀ {r ls : LV}, lsub r ls → ∀ (i : Nat) (v : Value), lk r i = some v → lk ls i = some v
  | [], _, _, _, _, e => by cases e
  | (j, w) :: r, ls, h, i, v, e => by
    unfold lk at e
    by_cases c : j = i
    · rw [if_pos c] at e
      cases e
      subst c
      exact h.1
    · rw [if_neg c] at e
      exact lsub.to h.2 i v e
