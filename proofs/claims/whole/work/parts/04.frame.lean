/-! frames and contracts -/
def nr (ret : Option FieldType) (r : Int32) : Prop := match ret with
  | some ty => narrow ty (.int r) = .int r
  | none => False
def Rt (cc : ByteArray) (ret : Option FieldType) (pc : Nat) : Option Int32 → Prop
  | some r => decode cc pc = .ok (.ireturn, 1) ∧ nr ret r
  | none => decode cc pc = .ok (.return_, 1) ∧ ret = none
def rv : Option Int32 → List Value
  | some r => [.int r]
  | none => []
abbrev QT : Type := Option Int32 → HP → Prop
def Qi (f : Int32 → HP → Prop) : QT := fun v G => match v with
  | some r => f r G
  | none => False
def Qv (f : HP → Prop) : QT := fun v G => match v with
  | some _ => False
  | none => f G
def Ev (Θ : Th) (d mc ms : Nat) (y : MethodName) (cc : ByteArray) (nL : Nat) (ret : Option FieldType) (p : Program) (R : Room) (s : State) (m : MethodId) (args : Array Value) (meth : Method) (c : Code) : Prop :=
  p.tables.exec = Jvm.exec ∧ c.code = cc ∧ c.maxLocals = nL ∧ meth.sig.returnType = ret ∧ meth.locks = false ∧ s.vm.findClass y.cls = some m.cls ∧ (∀ w ∈ TG, w.before args s = true) ∧ Uw Θ s ∧ tX Θ s s.heap ∧ tb Θ ≤ s.heap.size ∧ (d ≤ R.frames ∧ 50 * d ≤ R.locals ∧ mc ≤ R.cells ∧ ms ≤ R.slots) ∧ (y.name = "<init>" → meth.name = "<init>")
/-- from here on the frame comes to its return with Q -/
def E (Θ : Th) (d mc ms : Nat) (y : MethodName) (cc : ByteArray) (nL : Nat) (ret : Option FieldType) (cl sl n : Nat) (G : HP) (pc : Nat) (ls : LV) (st : List Value) (Q : QT) : Prop :=
  cl ≤ mc → sl ≤ ms → ∀ (p : Program) (e : Env) (R : Room) (s : State) (m : MethodId) (args : Array Value) (below : List Frame) (meth : Method) (c : Code), Ev Θ d mc ms y cc nL ret p R s m args meth c → s.heap.size + cl = tb Θ + n →
  ∀ (H : Heap) (locs : List Loc) (la : Array Slot), Hs Θ n G H → va_S (AA Θ) s.heap H locs → Lh la nL ls → ∀ Z : State → Prop,
  (∀ (v : Option Int32) (n' : Nat) (G' : HP) (H' : Heap) (locs' : List Loc) (pc' : Nat) (la' : Array Slot), Q v G' → s.heap.size + mc = tb Θ + n' → Hs Θ n' G' H' → va_S (AA Θ) s.heap H' locs' → Rt cc ret pc' v → W p (tL Θ) e R s m args below meth c H' locs' mc ms Z (F0 m pc' la' (rv v))) →
  W p (tL Θ) e R s m args below meth c H locs cl sl Z (F0 m pc la st)
def Pr (Θ : Th) (n : Nat) (G : HP) (U : State) : Prop := U.heap.size = tb Θ + n ∧ Hs Θ n G U.heap ∧ Uw Θ U ∧ tX Θ U U.heap
def Qc (Θ : Th) (n : Nat) (Q : QT) : Array Value → State → Outcome → State → Prop := fun _ st o t => ∃ (v : Option Int32) (G' : HP), o = .returned (v.map Value.int) ∧ Q v G' ∧ Hs Θ n G' t.heap ∧ va_F (AA Θ) st t
def rmO (d mc ms : Nat) : Room := { frames := d, cells := mc, slots := ms, locals := 50 * d }
/-- a method's contract: called with av over the cells G, it returns with Q -/
def C (Θ : Th) (d mc ms : Nat) (y : MethodName) (cc : ByteArray) (nL : Nat) (ret : Option FieldType) (av : List Value) (n : Nat) (G : HP) (Q : QT) : Prop :=
  Met (tL Θ) y (Cond.code y cc nL ret :: TG) (rmO d mc ms) (va_Pc av (Pr Θ n G)) (Qc Θ (n + mc) Q) mc ms (AA Θ)
theorem Pr.blind {Θ : Th} {av : List Value} {n : Nat} {G : HP} : FrameBlind (va_Pc av (Pr Θ n G)) := by
  intro a U g mk h
  obtain ⟨h1, h0, h2, h3, h4⟩ := h
  exact ⟨h1, h0, h2, Uw.same (s := U) (U := U.calling g mk a) rfl h3, h3.2.2.2.2 U (U.calling g mk a) _ rfl h4⟩
theorem E.mono {Θ : Th} {d mc ms : Nat} {y : MethodName} {cc : ByteArray} {nL : Nat} {ret : Option FieldType} {cl sl n : Nat} {G : HP} {pc : Nat} {ls : LV} {st : List Value} {Q Q' : QT} (h : ∀ v G, Q v G → Q' v G) (k : E Θ d mc ms y cc nL ret cl sl n G pc ls st Q) : E Θ d mc ms y cc nL ret cl sl n G pc ls st Q' :=
  fun a b p e R s m args below meth c hE hn H locs la hH hS hl Z hz => k a b p e R s m args below meth c hE hn H locs la hH hS hl Z (fun v n' G' H' locs' pc' la' q => hz v n' G' H' locs' pc' la' (h v G' q))
theorem E.loc {Θ : Th} {d mc ms : Nat} {y : MethodName} {cc : ByteArray} {nL : Nat} {ret : Option FieldType} {cl sl n : Nat} {G : HP} {pc : Nat} {ls ls' : LV} {st : List Value} {Q : QT} (h : lsub ls' ls) (k : E Θ d mc ms y cc nL ret cl sl n G pc ls' st Q) : E Θ d mc ms y cc nL ret cl sl n G pc ls st Q :=
  fun a b p e R s m args below meth c hE hn H locs la hH hS hl Z hz => k a b p e R s m args below meth c hE hn H locs la hH hS (hl.to h.to) Z hz
theorem Hs.congr {Θ : Th} {n : Nat} {G G' : HP} {H : Heap} (h : ∀ k, k < n → G k = G' k) (hH : Hs Θ n G H) : Hs Θ n G' H := by
  have e : wl (tb Θ) n G' = wl (tb Θ) n G := by
    symm
    apply wl_ext wl_len
    intro k hk
    rw [wl_get hk, h k hk]
  unfold Hs
  rw [e]
  exact hH
theorem E.heap {Θ : Th} {d mc ms : Nat} {y : MethodName} {cc : ByteArray} {nL : Nat} {ret : Option FieldType} {cl sl n : Nat} {G G' : HP} {pc : Nat} {ls : LV} {st : List Value} {Q : QT} (h : ∀ k, k < n → G k = G' k) (k : E Θ d mc ms y cc nL ret cl sl n G' pc ls st Q) : E Θ d mc ms y cc nL ret cl sl n G pc ls st Q :=
  fun a b p e R s m args below meth c hE hn H locs la hH hS hl Z hz => k a b p e R s m args below meth c hE hn H locs la (hH.congr h) hS hl Z hz
theorem lv_args_cat : ∀ (vs : List Value) (i : Nat), (∀ v ∈ vs, v.category = 1) → ∀ q ∈ lv_args i vs, q.2.category = 1
  | [], i, _, q, hq => by simp [lv_args] at hq
  | v :: vs, i, h, q, hq => by
    have hv := h v List.mem_cons_self
    simp only [lv_args, hv] at hq
    rcases List.mem_cons.mp hq with rfl | hq
    · exact hv
    · exact lv_args_cat vs _ (fun w hw => h w (List.mem_cons_of_mem _ hw)) q hq
theorem lk_mem : ∀ {ls : LV} {i : Nat} {v : Value}, lk ls i = some v → (i, v) ∈ ls
  | [], _, _, h => by cases h
  | (j, w) :: r, i, v, h => by
    unfold lk at h
    by_cases c : j = i
    · rw [if_pos c] at h
      cases h
      subst c
      exact List.mem_cons_self
    · rw [if_neg c] at h
      exact List.mem_cons_of_mem _ (lk_mem h)
theorem C_of {Θ : Th} {d mc ms : Nat} {y : MethodName} {cc : ByteArray} {nL : Nat} {ret : Option FieldType} {av : List Value} {n : Nat} {G : HP} {Q : QT} (hpl : plainName y.cls = true) (hca : av.all (fun v => v.category == 1) = true) (hnl : (lg_sl av).length ≤ nL) (h : E Θ d mc ms y cc nL ret 0 0 n G 0 (lv_args 0 av) [] Q) : C Θ d mc ms y cc nL ret av n G Q := by
  refine Met.ofW (cc := cc) (maxL := nL) (ret := ret) hpl rfl ?_
  intro p e s m args below meth c s₁ B hml hv
  obtain ⟨rfl, hz0, hH, hU, hX⟩ := hv
  have hts := atoms_spec (ws := Cond.code y cc nL ret :: TG) B.pre
  have hl := lv_entry av (n := nL) hnl
  rw [lg_entry_eq]
  have hb : tb Θ ≤ s.heap.size := by rw [hz0]; exact Nat.le_add_right _ _
  have hcat : ∀ v ∈ av, v.category = 1 := fun v hv => by simpa using List.all_eq_true.mp hca v hv
  refine h (Nat.zero_le _) (Nat.zero_le _) p e _ s m av.toArray below meth c ⟨B.exec, B.bytes, hml, B.returns, B.notSynchronized, findClass_of_methodNamed B.named, fun w hw => hts w (List.mem_cons_of_mem _ hw), hU, hX, hb, ⟨Nat.le_refl _, Nat.le_refl _, Nat.le_refl _, Nat.le_refl _⟩, fun hy => by rw [← hy]; exact (name_of_methodNamed B.named B.method).1⟩ hz0 s.heap [] _ hH va_S.rf ⟨hl.1, hl.2.1, fun i v e => ⟨hl.2.2 _ (lk_mem e), lv_args_cat av 0 hcat _ (lk_mem e)⟩⟩ _ ?_
  intro v n' G' H' locs' pc' la' hq hn' hH' hS' hR
  have en : n' = n + mc := by omega
  subst en
  cases v with
  | none =>
    exact W.vret B.exec B.bytes (by rw [B.returns]; exact hR.2) (fun t ht hW => ⟨none, G', rfl, hq, by rw [ht]; exact hH', hS'.F ht⟩) hS'.2.2 hR.1
  | some r =>
    cases hret : ret with
    | none => rw [hret] at hR; exact hR.2.elim
    | some ty =>
      rw [hret] at hR
      exact W.zret (v := r) (ty := ty) B.exec B.bytes (by rw [B.returns]; exact hret) hR.2 (fun t ht hW => ⟨some r, G', rfl, hq, by rw [ht]; exact hH', hS'.F ht⟩) hS'.2.2 hR.1
