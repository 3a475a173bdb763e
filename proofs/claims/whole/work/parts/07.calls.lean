/-! calls -/
theorem GI_code {y : MethodName} {cc : ByteArray} {nL : Nat} {ret : Option FieldType} (h : Cond.code y cc nL ret ∈ TG) : GoodIn TG (Cond.code y cc nL ret :: TG) := fun w hw => by
  rcases List.mem_cons.mp hw with rfl | hw
  · exact ⟨h, (TG_good h).2⟩
  · exact ⟨hw, (TG_good hw).2⟩
theorem GI_app {a b : List Cond} (ha : GoodIn TG a) (hb : GoodIn TG b) : GoodIn TG (a ++ b) := fun w h => (List.mem_append.mp h).elim (ha w) (hb w)
def pdn (y : MethodName) (k : Nat) : Prop := y.cls ≠ "java/lang/invoke/MethodHandle" ∧ y.cls ≠ "java/lang/invoke/VarHandle" ∧ (parseMethodDescriptor y.desc).map (fun d => d.parameters.length) = some k
/-- the link of a call of y in the class own by the number i -/
def ML (own : String) (i : Nat) (y : MethodName) : Prop := Cond.methodLink own i y ∈ TG ∨ ∃ host, Cond.methodLinkNest own i y host ∈ lw_tbl
def SOk (own : String) (i : Nat) (y : MethodName) (cc : ByteArray) (nL : Nat) (ret : Option FieldType) (k : Nat) : Prop := ML own i y ∧ Cond.static y ∈ TG ∧ Cond.initialized y.cls ∈ TG ∧ Cond.code y cc nL ret ∈ TG ∧ pdn y k ∧ nL ≤ 20
def IOk (own : String) (i : Nat) (y : MethodName) (cc : ByteArray) (nL : Nat) (k : Nat) : Prop := ML own i y ∧ Cond.instanceMethod y ∈ TG ∧ Cond.initialized y.cls ∈ TG ∧ Cond.code y cc nL none ∈ TG ∧ pdn y k ∧ nL ≤ 20 ∧ y.name = "<init>"
def UOk (own : String) (i : Nat) (y : MethodName) (cc : ByteArray) (nL : Nat) (ret : Option FieldType) (k : Nat) : Prop := GoodIn TG (va_wsSU own i y []) ∧ Cond.code y cc nL ret ∈ TG ∧ (y.name ≠ "<init>" ∧ (parseMethodDescriptor y.desc).map (fun d => d.parameters.length) = some k) ∧ nL ≤ 20
/-- a virtual call on an object of class ci comes to y -/
def VOk (own : String) (i ci : Nat) (y : MethodName) (cc : ByteArray) (nL : Nat) (ret : Option FieldType) (k : Nat) : Prop := ∃ r : vw_C, vwCl[ci]? = some r ∧ Cond.code y cc nL ret ∈ TG ∧ nL ≤ 20 ∧ ((ML own i y ∧ Cond.instanceMethod y ∈ TG ∧ Cond.initialized y.cls ∈ TG ∧ Cond.selects r.1 y y ∈ TG ∧ pdn y k) ∨ ∃ (x : MethodName) (owner : String) (b0 : ByteArray) (m0 : Nat) (r0 : Option FieldType), GoodIn TG (va_wsO own i r.1 owner x y []) ∧ Cond.code ⟨owner, x.name, x.desc⟩ b0 m0 r0 ∈ TG ∧ (owner ≠ "java/lang/invoke/MethodHandle" ∧ owner ≠ "java/lang/invoke/VarHandle" ∧ (parseMethodDescriptor x.desc).map (fun d => d.parameters.length) = some k))
section Calls
variable {Θ : Th} {d mc ms : Nat} {y : MethodName} {cc : ByteArray} {nL : Nat} {ret : Option FieldType} {cl sl n : Nat} {G : HP} {pc pc' : Nat} {ls : LV} {st : List Value} {Q : QT} {mc' ms' : Nat} {y' : MethodName} {cc' : ByteArray} {nL' : Nat} {ret' : Option FieldType} {As rest : List Value} {Q' : QT} {i ci k : Nat}
theorem E_fin {p : Program} {e : Env} {R : Room} {s : State} {m : MethodId} {args : Array Value} {below : List Frame} {meth : Method} {c : Code} {H : Heap} {locs : List Loc} {la : Array Slot} {Z : State → Prop} {av : Array Value} {st0 : List Value} {T0 : State}
    (hrun : va_Run p (tL Θ) e R s m args below meth c H locs cl sl mc' ms' (F0 m pc la st0) rest (Qc Θ (n + mc') Q' av) (AA Θ)) (hT : T0.heap = H) (X : Stand p (tL Θ) e R s m args below meth c T0 locs cl sl) (hb : tb Θ ≤ s.heap.size) (hS : va_S (AA Θ) s.heap H locs)
    (K : ∀ (v : Option Int32) (G' : HP) (H1 : Heap) (locs1 : List Loc), Q' v G' → Hs Θ (n + mc') G' H1 → va_S (AA Θ) s.heap H1 locs1 → W p (tL Θ) e R s m args below meth c H1 locs1 (cl + mc') (sl + ms') Z (F0 m (pc + 3) la (rv v ++ rest))) : ∃ t, Steps p.tables e below (T0.setTop (F0 m pc la st0)) t ∧ Z t := by
  obtain ⟨v, st₀, t, T', L, h0, X', hL, e1, e2, ⟨v', G', hv, hQ, hH', hF⟩, hst⟩ := hrun T0 hT X
  have hv2 : v = v'.map Value.int := by injection hv
  subst hv2
  have hS' : va_S (AA Θ) s.heap T'.heap (locs ++ L) := by
    refine ⟨?_, fun q h1 h2 => ?_, fun q hq => ?_⟩
    · rw [e1]
      exact Nat.le_trans hS.1 (by rw [← h0]; exact hF.1)
    · rw [e1, hF.2 q (by rw [h0]; exact Nat.lt_of_lt_of_le h1 hS.1) h2, h0]
      exact hS.2.1 q h1 h2
    · rcases List.mem_append.mp hq with h | h
      · exact hS.2.2 q h
      · exact hL q h
  obtain ⟨t2, a1, b1⟩ := K v' G' T'.heap (locs ++ L) hQ (by rw [e1]; exact hH') hS' T' rfl X'
  refine ⟨t2, hst t2 ?_, b1⟩
  cases v' with
  | none => exact a1
  | some r => exact a1
theorem E_pre {s : State} {H : Heap} {locs : List Loc} (hsz : H.size = tb Θ + n) (hH : Hs Θ n G H) (hU : Uw Θ s) (hX : tX Θ s s.heap) (hb : tb Θ ≤ s.heap.size) (hS : va_S (AA Θ) s.heap H locs) : ∀ U : State, U.heap = H → s.WarmedH U.vm → va_Pc As (Pr Θ n G) As.toArray U := by
  intro U hU0 hW
  refine ⟨rfl, by rw [hU0]; exact hsz, by rw [hU0]; exact hH, hU.warm hW, ?_⟩
  rw [hU0]
  exact hU.2.2.2.1 s U H hW (hU.2.2.1 s s.heap H (fun q hq => hS.2.1 q (Nat.lt_of_lt_of_le hq hb) (Nat.not_le.mpr hq)) hX)
theorem E_S (hk : SOk y.cls i y' cc' nL' ret' k) (hd : Dc cc pc (.invokestatic i) 3 pc') (hn0 : As.length = k) (hst : (rest.map fun v => v.category).sum ≤ 8) (hM : C Θ d mc' ms' y' cc' nL' ret' As n G Q') (hc1 : cl + mc' ≤ mc) (hs1 : sl + ms' ≤ ms) (K : ∀ v G', Q' v G' → E Θ (d + 1) mc ms y cc nL ret (cl + mc') (sl + ms') (n + mc') G' pc' ls (rv v ++ rest) Q) : E Θ (d + 1) mc ms y cc nL ret cl sl n G pc ls (As.reverse ++ rest) Q := by
  obtain ⟨hd, rfl⟩ := hd
  intro a b p e R s m args below meth c hE hn H locs la hH hS hl Z hz
  intro T0 hT X
  have hu : H.size ≤ s.heap.size + cl := by rw [← hT]; exact X.same.2.2.1
  have hsz := hH.sz hn hE.2.2.2.2.2.2.2.2.2.1 hS hu
  have hr := hE.2.2.2.2.2.2.2.2.2.2.1
  obtain ⟨hw1, hw2, hw3, hw4, hp, h20⟩ := hk
  have hrm : (rmO d mc' ms').frames + 1 ≤ R.frames ∧ 8 + (nL' + 11) + (rmO d mc' ms').locals ≤ R.locals := ⟨hr.1, by show 8 + (nL' + 11) + 50 * d ≤ _; omega⟩
  obtain hw1 | ⟨host, hw1⟩ := hw1
  · exact E_fin (va_runS ⟨hE.1, hE.2.1, hE.2.2.1, hE.2.2.2.2.2.1, hE.2.2.2.2.2.2.1⟩ hM ⟨callB_of k hE.2.2.2.2.2.2.1 (GI_code hw4) rfl rfl rfl (hE.2.2.2.2.2.2.1 _ hw3) (hE.2.2.2.2.2.2.1 _ hw1) hp hrm, hE.2.2.2.2.2.2.1 _ hw2⟩ ⟨Pr.blind, E_pre (As := As) hsz hH hE.2.2.2.2.2.2.2.1 hE.2.2.2.2.2.2.2.2.1 hE.2.2.2.2.2.2.2.2.2.1 hS⟩ rfl hn0 hl.1 rfl (lv_room hst) hd ⟨by omega, by omega⟩) hT X hE.2.2.2.2.2.2.2.2.2.1 hS (fun v G' H1 locs1 hq h1 h2 => K v G' hq hc1 hs1 p e R s m args below meth c hE (by omega) H1 locs1 la h1 h2 hl Z hz)
  · exact E_fin (va_runSN ⟨hE.1, hE.2.1, hE.2.2.1, hE.2.2.2.2.2.1, hE.2.2.2.2.2.2.1⟩ hM ⟨va_cnB k hE.2.2.2.2.2.2.1 (GI_code hw4) rfl rfl rfl (hE.2.2.2.2.2.2.2.1.2.1.1 _ hw1 rfl) (hE.2.2.2.2.2.2.1 _ hw3) hp hrm, hE.2.2.2.2.2.2.1 _ hw2, trivial⟩ ⟨Pr.blind, E_pre (As := As) hsz hH hE.2.2.2.2.2.2.2.1 hE.2.2.2.2.2.2.2.2.1 hE.2.2.2.2.2.2.2.2.2.1 hS⟩ rfl hn0 hl.1 rfl (lv_room hst) hd ⟨by omega, by omega⟩) hT X hE.2.2.2.2.2.2.2.2.2.1 hS (fun v G' H1 locs1 hq h1 h2 => K v G' hq hc1 hs1 p e R s m args below meth c hE (by omega) H1 locs1 la h1 h2 hl Z hz)
theorem E_I {kb : Nat} (hk : IOk y.cls i y' cc' nL' k) (hd : Dc cc pc (.invokespecial i) 3 pc') (hn0 : As.length = k) (hst : (rest.map fun v => v.category).sum ≤ 8) (hM : C Θ d mc' ms' y' cc' nL' none (.ref kb :: As) n G Q') (hc1 : cl + mc' ≤ mc) (hs1 : sl + ms' ≤ ms) (K : ∀ v G', Q' v G' → E Θ (d + 1) mc ms y cc nL ret (cl + mc') (sl + ms') (n + mc') G' pc' ls (rv v ++ rest) Q) : E Θ (d + 1) mc ms y cc nL ret cl sl n G pc ls (As.reverse ++ .ref kb :: rest) Q := by
  obtain ⟨hd, rfl⟩ := hd
  intro a b p e R s m args below meth c hE hn H locs la hH hS hl Z hz
  intro T0 hT X
  have hu : H.size ≤ s.heap.size + cl := by rw [← hT]; exact X.same.2.2.1
  have hsz := hH.sz hn hE.2.2.2.2.2.2.2.2.2.1 hS hu
  have hr := hE.2.2.2.2.2.2.2.2.2.2.1
  obtain ⟨hw1, hw2, hw3, hw4, hp, h20, hin⟩ := hk
  have hrm : (rmO d mc' ms').frames + 1 ≤ R.frames ∧ 8 + (nL' + 11) + (rmO d mc' ms').locals ≤ R.locals := ⟨hr.1, by show 8 + (nL' + 11) + 50 * d ≤ _; omega⟩
  obtain hw1 | ⟨host, hw1⟩ := hw1
  · exact E_fin (va_runI ⟨hE.1, hE.2.1, hE.2.2.1, hE.2.2.2.2.2.1, hE.2.2.2.2.2.2.1⟩ hM ⟨callB_of k hE.2.2.2.2.2.2.1 (GI_code hw4) rfl rfl rfl (hE.2.2.2.2.2.2.1 _ hw3) (hE.2.2.2.2.2.2.1 _ hw1) hp hrm, hin, hE.2.2.2.2.2.2.1 _ hw2⟩ ⟨Pr.blind, E_pre (As := .ref kb :: As) hsz hH hE.2.2.2.2.2.2.2.1 hE.2.2.2.2.2.2.2.2.1 hE.2.2.2.2.2.2.2.2.2.1 hS⟩ rfl hn0 hl.1 rfl (lv_room hst) hd ⟨by omega, by omega⟩) hT X hE.2.2.2.2.2.2.2.2.2.1 hS (fun v G' H1 locs1 hq h1 h2 => K v G' hq hc1 hs1 p e R s m args below meth c hE (by omega) H1 locs1 la h1 h2 hl Z hz)
  · exact E_fin (va_runIN ⟨hE.1, hE.2.1, hE.2.2.1, hE.2.2.2.2.2.1, hE.2.2.2.2.2.2.1⟩ hM ⟨va_cnB k hE.2.2.2.2.2.2.1 (GI_code hw4) rfl rfl rfl (hE.2.2.2.2.2.2.2.1.2.1.1 _ hw1 rfl) (hE.2.2.2.2.2.2.1 _ hw3) hp hrm, hin, hE.2.2.2.2.2.2.1 _ hw2⟩ ⟨Pr.blind, E_pre (As := .ref kb :: As) hsz hH hE.2.2.2.2.2.2.2.1 hE.2.2.2.2.2.2.2.2.1 hE.2.2.2.2.2.2.2.2.2.1 hS⟩ rfl hn0 hl.1 rfl (lv_room hst) hd ⟨by omega, by omega⟩) hT X hE.2.2.2.2.2.2.2.2.2.1 hS (fun v G' H1 locs1 hq h1 h2 => K v G' hq hc1 hs1 p e R s m args below meth c hE (by omega) H1 locs1 la h1 h2 hl Z hz)
theorem E_V {kb : Nat} {fs : List Value} (hk : VOk y.cls i ci y' cc' nL' ret' k) (hd : Dc cc pc (.invokevirtual i) 3 pc') (hn0 : As.length = k) (hst : (rest.map fun v => v.category).sum ≤ 8) (hkb : kb < n) (hGb : G kb = .inr (ci, fs)) (hM : C Θ d mc' ms' y' cc' nL' ret' (.ref (tb Θ + kb) :: As) n G Q') (hc1 : cl + mc' ≤ mc) (hs1 : sl + ms' ≤ ms) (K : ∀ v G', Q' v G' → E Θ (d + 1) mc ms y cc nL ret (cl + mc') (sl + ms') (n + mc') G' pc' ls (rv v ++ rest) Q) : E Θ (d + 1) mc ms y cc nL ret cl sl n G pc ls (As.reverse ++ .ref (tb Θ + kb) :: rest) Q := by
  obtain ⟨hd, rfl⟩ := hd
  intro a b p e R s m args below meth c hE hn H locs la hH hS hl Z hz
  intro T0 hT X
  have hu : H.size ≤ s.heap.size + cl := by rw [← hT]; exact X.same.2.2.1
  have hsz := hH.sz hn hE.2.2.2.2.2.2.2.2.2.1 hS hu
  have hr := hE.2.2.2.2.2.2.2.2.2.2.1
  obtain ⟨r, hrc0, hw4, h20, hk⟩ := hk
  have hrm : (rmO d mc' ms').frames + 1 ≤ R.frames ∧ 8 + (nL' + 11) + (rmO d mc' ms').locals ≤ R.locals := ⟨hr.1, by show 8 + (nL' + 11) + 50 * d ≤ _; omega⟩
  obtain ⟨hw1 | ⟨host, hw1⟩, hw2, hw3, hw5, hp⟩ | ⟨x, owner, b0, m0, r0, hgo, h0, hp⟩ := hk
  · exact E_fin (va_runV ⟨hE.1, hE.2.1, hE.2.2.1, hE.2.2.2.2.2.1, hE.2.2.2.2.2.2.1⟩ hM ⟨callB_of k hE.2.2.2.2.2.2.1 (GI_code hw4) rfl rfl rfl (hE.2.2.2.2.2.2.1 _ hw3) (hE.2.2.2.2.2.2.1 _ hw1) hp hrm, hE.2.2.2.2.2.2.1 _ hw2, hE.2.2.2.2.2.2.1 _ hw5⟩ ⟨Pr.blind, va_recv hE.2.2.2.2.2.2.2.1.1 hH hrc0 (wl_at hkb hGb), E_pre (As := .ref (tb Θ + kb) :: As) hsz hH hE.2.2.2.2.2.2.2.1 hE.2.2.2.2.2.2.2.2.1 hE.2.2.2.2.2.2.2.2.2.1 hS⟩ rfl hn0 hl.1 rfl (lv_room hst) hd ⟨by omega, by omega⟩) hT X hE.2.2.2.2.2.2.2.2.2.1 hS (fun v G' H1 locs1 hq h1 h2 => K v G' hq hc1 hs1 p e R s m args below meth c hE (by omega) H1 locs1 la h1 h2 hl Z hz)
  · exact E_fin (va_runVN ⟨hE.1, hE.2.1, hE.2.2.1, hE.2.2.2.2.2.1, hE.2.2.2.2.2.2.1⟩ hM ⟨va_cnB k hE.2.2.2.2.2.2.1 (GI_code hw4) rfl rfl rfl (hE.2.2.2.2.2.2.2.1.2.1.1 _ hw1 rfl) (hE.2.2.2.2.2.2.1 _ hw3) hp hrm, hE.2.2.2.2.2.2.1 _ hw2, hE.2.2.2.2.2.2.1 _ hw5⟩ ⟨Pr.blind, va_recv hE.2.2.2.2.2.2.2.1.1 hH hrc0 (wl_at hkb hGb), E_pre (As := .ref (tb Θ + kb) :: As) hsz hH hE.2.2.2.2.2.2.2.1 hE.2.2.2.2.2.2.2.2.1 hE.2.2.2.2.2.2.2.2.2.1 hS⟩ rfl hn0 hl.1 rfl (lv_room hst) hd ⟨by omega, by omega⟩) hT X hE.2.2.2.2.2.2.2.2.2.1 hS (fun v G' H1 locs1 hq h1 h2 => K v G' hq hc1 hs1 p e R s m args below meth c hE (by omega) H1 locs1 la h1 h2 hl Z hz)
  · have hgo2 : GoodIn TG (va_wsO y.cls i r.1 owner x y' (Cond.code y' cc' nL' ret' :: TG)) := by
      have h9 := GI_app hgo (GI_code hw4)
      simpa [va_wsO] using h9
    exact E_fin (va_runU ⟨hE.1, hE.2.1, hE.2.2.1, hE.2.2.2.2.2.1, hE.2.2.2.2.2.2.1⟩ hM (va_cwO k hE.2.2.2.2.2.2.1 hgo2 rfl rfl rfl h0 hp hrm) ⟨Pr.blind, va_recv hE.2.2.2.2.2.2.2.1.1 hH hrc0 (wl_at hkb hGb), E_pre (As := .ref (tb Θ + kb) :: As) hsz hH hE.2.2.2.2.2.2.2.1 hE.2.2.2.2.2.2.2.2.1 hE.2.2.2.2.2.2.2.2.2.1 hS⟩ rfl hn0 hl.1 rfl (lv_room hst) hd ⟨by omega, by omega⟩) hT X hE.2.2.2.2.2.2.2.2.2.1 hS (fun v G' H1 locs1 hq h1 h2 => K v G' hq hc1 hs1 p e R s m args below meth c hE (by omega) H1 locs1 la h1 h2 hl Z hz)
theorem E_U {kb : Nat} {fs : List Value} {r : vw_C} (hk : UOk y.cls i y' cc' nL' ret' k) (hd : Dc cc pc (.invokespecial i) 3 pc') (hn0 : As.length = k) (hst : (rest.map fun v => v.category).sum ≤ 8) (hkb : kb < n) (hGb : G kb = .inr (ci, fs)) (hrc0 : vwCl[ci]? = some r) (hM : C Θ d mc' ms' y' cc' nL' ret' (.ref (tb Θ + kb) :: As) n G Q') (hc1 : cl + mc' ≤ mc) (hs1 : sl + ms' ≤ ms) (K : ∀ v G', Q' v G' → E Θ (d + 1) mc ms y cc nL ret (cl + mc') (sl + ms') (n + mc') G' pc' ls (rv v ++ rest) Q) : E Θ (d + 1) mc ms y cc nL ret cl sl n G pc ls (As.reverse ++ .ref (tb Θ + kb) :: rest) Q := by
  obtain ⟨hd, rfl⟩ := hd
  intro a b p e R s m args below meth c hE hn H locs la hH hS hl Z hz
  intro T0 hT X
  have hu : H.size ≤ s.heap.size + cl := by rw [← hT]; exact X.same.2.2.1
  have hsz := hH.sz hn hE.2.2.2.2.2.2.2.2.2.1 hS hu
  have hr := hE.2.2.2.2.2.2.2.2.2.2.1
  obtain ⟨hgo, hw4, hp, h20⟩ := hk
  have hrm : (rmO d mc' ms').frames + 1 ≤ R.frames ∧ 8 + (nL' + 11) + (rmO d mc' ms').locals ≤ R.locals := ⟨hr.1, by show 8 + (nL' + 11) + 50 * d ≤ _; omega⟩
  have hgo2 : GoodIn TG (va_wsSU y.cls i y' (Cond.code y' cc' nL' ret' :: TG)) := by
    have h9 := GI_app hgo (GI_code hw4)
    simpa [va_wsSU] using h9
  exact E_fin (va_runSU (hE.2.2.2.2.2.2.2.1.1.1 ci _ hrc0).2 ⟨hE.1, hE.2.1, hE.2.2.1, hE.2.2.2.2.2.1, hE.2.2.2.2.2.2.1⟩ hM (va_cwSU k hE.2.2.2.2.2.2.1 hgo2 rfl rfl rfl hp hrm) ⟨Pr.blind, va_recv hE.2.2.2.2.2.2.2.1.1 hH hrc0 (wl_at hkb hGb), E_pre (As := .ref (tb Θ + kb) :: As) hsz hH hE.2.2.2.2.2.2.2.1 hE.2.2.2.2.2.2.2.2.1 hE.2.2.2.2.2.2.2.2.2.1 hS⟩ rfl hn0 hl.1 rfl (lv_room hst) hd ⟨by omega, by omega⟩) hT X hE.2.2.2.2.2.2.2.2.2.1 hS (fun v G' H1 locs1 hq h1 h2 => K v G' hq hc1 hs1 p e R s m args below meth c hE (by omega) H1 locs1 la h1 h2 hl Z hz)
theorem E_S0i (hk : SOk y.cls i y' cc' nL' ret' 0) (hd : Dc cc pc (.invokestatic i) 3 pc') (hst : (st.map fun v => v.category).sum ≤ 8) (K : C Θ d 0 0 y' cc' nL' ret' [] n G (Qi (fun r G' => E Θ (d + 1) mc ms y cc nL ret cl sl n G' pc' ls (.int r :: st) Q))) : E Θ (d + 1) mc ms y cc nL ret cl sl n G pc ls (st) Q := fun a b => E_S (As := []) hk hd rfl hst K a b (fun v G' hq => by
    cases v with
    | none => exact hq.elim
    | some r => exact hq) a b
theorem E_V0i {kb : Nat} {fs : List Value} (hk : VOk y.cls i ci y' cc' nL' ret' 0) (hd : Dc cc pc (.invokevirtual i) 3 pc') (hst : (st.map fun v => v.category).sum ≤ 8) (hkb : kb < n) (hGb : G kb = .inr (ci, fs)) (K : C Θ d 0 0 y' cc' nL' ret' (.ref (tb Θ + kb) :: []) n G (Qi (fun r G' => E Θ (d + 1) mc ms y cc nL ret cl sl n G' pc' ls (.int r :: st) Q))) : E Θ (d + 1) mc ms y cc nL ret cl sl n G pc ls (.ref (tb Θ + kb) :: st) Q := fun a b => E_V (As := []) hk hd rfl hst hkb hGb K a b (fun v G' hq => by
    cases v with
    | none => exact hq.elim
    | some r => exact hq) a b
theorem E_U0i {kb : Nat} {fs : List Value} {r0 : vw_C} (hk : UOk y.cls i y' cc' nL' ret' 0) (hd : Dc cc pc (.invokespecial i) 3 pc') (hst : (st.map fun v => v.category).sum ≤ 8) (hkb : kb < n) (hGb : G kb = .inr (ci, fs)) (hrc0 : vwCl[ci]? = some r0) (K : C Θ d 0 0 y' cc' nL' ret' (.ref (tb Θ + kb) :: []) n G (Qi (fun r G' => E Θ (d + 1) mc ms y cc nL ret cl sl n G' pc' ls (.int r :: st) Q))) : E Θ (d + 1) mc ms y cc nL ret cl sl n G pc ls (.ref (tb Θ + kb) :: st) Q := fun a b => E_U (As := []) hk hd rfl hst hkb hGb hrc0 K a b (fun v G' hq => by
    cases v with
    | none => exact hq.elim
    | some r => exact hq) a b
theorem E_S0v (hk : SOk y.cls i y' cc' nL' ret' 0) (hd : Dc cc pc (.invokestatic i) 3 pc') (hst : (st.map fun v => v.category).sum ≤ 8) (K : C Θ d 0 0 y' cc' nL' ret' [] n G (Qv (fun G' => E Θ (d + 1) mc ms y cc nL ret cl sl n G' pc' ls st Q))) : E Θ (d + 1) mc ms y cc nL ret cl sl n G pc ls (st) Q := fun a b => E_S (As := []) hk hd rfl hst K a b (fun v G' hq => by
    cases v with
    | none => exact hq
    | some r => exact hq.elim) a b
theorem E_V0v {kb : Nat} {fs : List Value} (hk : VOk y.cls i ci y' cc' nL' ret' 0) (hd : Dc cc pc (.invokevirtual i) 3 pc') (hst : (st.map fun v => v.category).sum ≤ 8) (hkb : kb < n) (hGb : G kb = .inr (ci, fs)) (K : C Θ d 0 0 y' cc' nL' ret' (.ref (tb Θ + kb) :: []) n G (Qv (fun G' => E Θ (d + 1) mc ms y cc nL ret cl sl n G' pc' ls st Q))) : E Θ (d + 1) mc ms y cc nL ret cl sl n G pc ls (.ref (tb Θ + kb) :: st) Q := fun a b => E_V (As := []) hk hd rfl hst hkb hGb K a b (fun v G' hq => by
    cases v with
    | none => exact hq
    | some r => exact hq.elim) a b
theorem E_S1i {v0 : Value} (hk : SOk y.cls i y' cc' nL' ret' 1) (hd : Dc cc pc (.invokestatic i) 3 pc') (hst : (st.map fun v => v.category).sum ≤ 8) (K : C Θ d 0 0 y' cc' nL' ret' [v0] n G (Qi (fun r G' => E Θ (d + 1) mc ms y cc nL ret cl sl n G' pc' ls (.int r :: st) Q))) : E Θ (d + 1) mc ms y cc nL ret cl sl n G pc ls (v0 :: st) Q := fun a b => E_S (As := [v0]) hk hd rfl hst K a b (fun v G' hq => by
    cases v with
    | none => exact hq.elim
    | some r => exact hq) a b
theorem E_V1i {kb : Nat} {fs : List Value} {v0 : Value} (hk : VOk y.cls i ci y' cc' nL' ret' 1) (hd : Dc cc pc (.invokevirtual i) 3 pc') (hst : (st.map fun v => v.category).sum ≤ 8) (hkb : kb < n) (hGb : G kb = .inr (ci, fs)) (K : C Θ d 0 0 y' cc' nL' ret' (.ref (tb Θ + kb) :: [v0]) n G (Qi (fun r G' => E Θ (d + 1) mc ms y cc nL ret cl sl n G' pc' ls (.int r :: st) Q))) : E Θ (d + 1) mc ms y cc nL ret cl sl n G pc ls (v0 :: .ref (tb Θ + kb) :: st) Q := fun a b => E_V (As := [v0]) hk hd rfl hst hkb hGb K a b (fun v G' hq => by
    cases v with
    | none => exact hq.elim
    | some r => exact hq) a b
theorem E_U1i {kb : Nat} {fs : List Value} {r0 : vw_C} {v0 : Value} (hk : UOk y.cls i y' cc' nL' ret' 1) (hd : Dc cc pc (.invokespecial i) 3 pc') (hst : (st.map fun v => v.category).sum ≤ 8) (hkb : kb < n) (hGb : G kb = .inr (ci, fs)) (hrc0 : vwCl[ci]? = some r0) (K : C Θ d 0 0 y' cc' nL' ret' (.ref (tb Θ + kb) :: [v0]) n G (Qi (fun r G' => E Θ (d + 1) mc ms y cc nL ret cl sl n G' pc' ls (.int r :: st) Q))) : E Θ (d + 1) mc ms y cc nL ret cl sl n G pc ls (v0 :: .ref (tb Θ + kb) :: st) Q := fun a b => E_U (As := [v0]) hk hd rfl hst hkb hGb hrc0 K a b (fun v G' hq => by
    cases v with
    | none => exact hq.elim
    | some r => exact hq) a b
theorem E_S1v {v0 : Value} (hk : SOk y.cls i y' cc' nL' ret' 1) (hd : Dc cc pc (.invokestatic i) 3 pc') (hst : (st.map fun v => v.category).sum ≤ 8) (K : C Θ d 0 0 y' cc' nL' ret' [v0] n G (Qv (fun G' => E Θ (d + 1) mc ms y cc nL ret cl sl n G' pc' ls st Q))) : E Θ (d + 1) mc ms y cc nL ret cl sl n G pc ls (v0 :: st) Q := fun a b => E_S (As := [v0]) hk hd rfl hst K a b (fun v G' hq => by
    cases v with
    | none => exact hq
    | some r => exact hq.elim) a b
theorem E_V1v {kb : Nat} {fs : List Value} {v0 : Value} (hk : VOk y.cls i ci y' cc' nL' ret' 1) (hd : Dc cc pc (.invokevirtual i) 3 pc') (hst : (st.map fun v => v.category).sum ≤ 8) (hkb : kb < n) (hGb : G kb = .inr (ci, fs)) (K : C Θ d 0 0 y' cc' nL' ret' (.ref (tb Θ + kb) :: [v0]) n G (Qv (fun G' => E Θ (d + 1) mc ms y cc nL ret cl sl n G' pc' ls st Q))) : E Θ (d + 1) mc ms y cc nL ret cl sl n G pc ls (v0 :: .ref (tb Θ + kb) :: st) Q := fun a b => E_V (As := [v0]) hk hd rfl hst hkb hGb K a b (fun v G' hq => by
    cases v with
    | none => exact hq
    | some r => exact hq.elim) a b
theorem E_S2i {v0 v1 : Value} (hk : SOk y.cls i y' cc' nL' ret' 2) (hd : Dc cc pc (.invokestatic i) 3 pc') (hst : (st.map fun v => v.category).sum ≤ 8) (K : C Θ d 0 0 y' cc' nL' ret' [v0, v1] n G (Qi (fun r G' => E Θ (d + 1) mc ms y cc nL ret cl sl n G' pc' ls (.int r :: st) Q))) : E Θ (d + 1) mc ms y cc nL ret cl sl n G pc ls (v1 :: v0 :: st) Q := fun a b => E_S (As := [v0, v1]) hk hd rfl hst K a b (fun v G' hq => by
    cases v with
    | none => exact hq.elim
    | some r => exact hq) a b
theorem E_V2i {kb : Nat} {fs : List Value} {v0 v1 : Value} (hk : VOk y.cls i ci y' cc' nL' ret' 2) (hd : Dc cc pc (.invokevirtual i) 3 pc') (hst : (st.map fun v => v.category).sum ≤ 8) (hkb : kb < n) (hGb : G kb = .inr (ci, fs)) (K : C Θ d 0 0 y' cc' nL' ret' (.ref (tb Θ + kb) :: [v0, v1]) n G (Qi (fun r G' => E Θ (d + 1) mc ms y cc nL ret cl sl n G' pc' ls (.int r :: st) Q))) : E Θ (d + 1) mc ms y cc nL ret cl sl n G pc ls (v1 :: v0 :: .ref (tb Θ + kb) :: st) Q := fun a b => E_V (As := [v0, v1]) hk hd rfl hst hkb hGb K a b (fun v G' hq => by
    cases v with
    | none => exact hq.elim
    | some r => exact hq) a b
theorem E_U2i {kb : Nat} {fs : List Value} {r0 : vw_C} {v0 v1 : Value} (hk : UOk y.cls i y' cc' nL' ret' 2) (hd : Dc cc pc (.invokespecial i) 3 pc') (hst : (st.map fun v => v.category).sum ≤ 8) (hkb : kb < n) (hGb : G kb = .inr (ci, fs)) (hrc0 : vwCl[ci]? = some r0) (K : C Θ d 0 0 y' cc' nL' ret' (.ref (tb Θ + kb) :: [v0, v1]) n G (Qi (fun r G' => E Θ (d + 1) mc ms y cc nL ret cl sl n G' pc' ls (.int r :: st) Q))) : E Θ (d + 1) mc ms y cc nL ret cl sl n G pc ls (v1 :: v0 :: .ref (tb Θ + kb) :: st) Q := fun a b => E_U (As := [v0, v1]) hk hd rfl hst hkb hGb hrc0 K a b (fun v G' hq => by
    cases v with
    | none => exact hq.elim
    | some r => exact hq) a b
theorem E_S2v {v0 v1 : Value} (hk : SOk y.cls i y' cc' nL' ret' 2) (hd : Dc cc pc (.invokestatic i) 3 pc') (hst : (st.map fun v => v.category).sum ≤ 8) (K : C Θ d 0 0 y' cc' nL' ret' [v0, v1] n G (Qv (fun G' => E Θ (d + 1) mc ms y cc nL ret cl sl n G' pc' ls st Q))) : E Θ (d + 1) mc ms y cc nL ret cl sl n G pc ls (v1 :: v0 :: st) Q := fun a b => E_S (As := [v0, v1]) hk hd rfl hst K a b (fun v G' hq => by
    cases v with
    | none => exact hq
    | some r => exact hq.elim) a b
theorem E_V2v {kb : Nat} {fs : List Value} {v0 v1 : Value} (hk : VOk y.cls i ci y' cc' nL' ret' 2) (hd : Dc cc pc (.invokevirtual i) 3 pc') (hst : (st.map fun v => v.category).sum ≤ 8) (hkb : kb < n) (hGb : G kb = .inr (ci, fs)) (K : C Θ d 0 0 y' cc' nL' ret' (.ref (tb Θ + kb) :: [v0, v1]) n G (Qv (fun G' => E Θ (d + 1) mc ms y cc nL ret cl sl n G' pc' ls st Q))) : E Θ (d + 1) mc ms y cc nL ret cl sl n G pc ls (v1 :: v0 :: .ref (tb Θ + kb) :: st) Q := fun a b => E_V (As := [v0, v1]) hk hd rfl hst hkb hGb K a b (fun v G' hq => by
    cases v with
    | none => exact hq
    | some r => exact hq.elim) a b
theorem E_S3i {v0 v1 v2 : Value} (hk : SOk y.cls i y' cc' nL' ret' 3) (hd : Dc cc pc (.invokestatic i) 3 pc') (hst : (st.map fun v => v.category).sum ≤ 8) (K : C Θ d 0 0 y' cc' nL' ret' [v0, v1, v2] n G (Qi (fun r G' => E Θ (d + 1) mc ms y cc nL ret cl sl n G' pc' ls (.int r :: st) Q))) : E Θ (d + 1) mc ms y cc nL ret cl sl n G pc ls (v2 :: v1 :: v0 :: st) Q := fun a b => E_S (As := [v0, v1, v2]) hk hd rfl hst K a b (fun v G' hq => by
    cases v with
    | none => exact hq.elim
    | some r => exact hq) a b
theorem E_V3i {kb : Nat} {fs : List Value} {v0 v1 v2 : Value} (hk : VOk y.cls i ci y' cc' nL' ret' 3) (hd : Dc cc pc (.invokevirtual i) 3 pc') (hst : (st.map fun v => v.category).sum ≤ 8) (hkb : kb < n) (hGb : G kb = .inr (ci, fs)) (K : C Θ d 0 0 y' cc' nL' ret' (.ref (tb Θ + kb) :: [v0, v1, v2]) n G (Qi (fun r G' => E Θ (d + 1) mc ms y cc nL ret cl sl n G' pc' ls (.int r :: st) Q))) : E Θ (d + 1) mc ms y cc nL ret cl sl n G pc ls (v2 :: v1 :: v0 :: .ref (tb Θ + kb) :: st) Q := fun a b => E_V (As := [v0, v1, v2]) hk hd rfl hst hkb hGb K a b (fun v G' hq => by
    cases v with
    | none => exact hq.elim
    | some r => exact hq) a b
theorem E_S3v {v0 v1 v2 : Value} (hk : SOk y.cls i y' cc' nL' ret' 3) (hd : Dc cc pc (.invokestatic i) 3 pc') (hst : (st.map fun v => v.category).sum ≤ 8) (K : C Θ d 0 0 y' cc' nL' ret' [v0, v1, v2] n G (Qv (fun G' => E Θ (d + 1) mc ms y cc nL ret cl sl n G' pc' ls st Q))) : E Θ (d + 1) mc ms y cc nL ret cl sl n G pc ls (v2 :: v1 :: v0 :: st) Q := fun a b => E_S (As := [v0, v1, v2]) hk hd rfl hst K a b (fun v G' hq => by
    cases v with
    | none => exact hq
    | some r => exact hq.elim) a b
theorem E_V3v {kb : Nat} {fs : List Value} {v0 v1 v2 : Value} (hk : VOk y.cls i ci y' cc' nL' ret' 3) (hd : Dc cc pc (.invokevirtual i) 3 pc') (hst : (st.map fun v => v.category).sum ≤ 8) (hkb : kb < n) (hGb : G kb = .inr (ci, fs)) (K : C Θ d 0 0 y' cc' nL' ret' (.ref (tb Θ + kb) :: [v0, v1, v2]) n G (Qv (fun G' => E Θ (d + 1) mc ms y cc nL ret cl sl n G' pc' ls st Q))) : E Θ (d + 1) mc ms y cc nL ret cl sl n G pc ls (v2 :: v1 :: v0 :: .ref (tb Θ + kb) :: st) Q := fun a b => E_V (As := [v0, v1, v2]) hk hd rfl hst hkb hGb K a b (fun v G' hq => by
    cases v with
    | none => exact hq
    | some r => exact hq.elim) a b
theorem E_S4i {v0 v1 v2 v3 : Value} (hk : SOk y.cls i y' cc' nL' ret' 4) (hd : Dc cc pc (.invokestatic i) 3 pc') (hst : (st.map fun v => v.category).sum ≤ 8) (K : C Θ d 0 0 y' cc' nL' ret' [v0, v1, v2, v3] n G (Qi (fun r G' => E Θ (d + 1) mc ms y cc nL ret cl sl n G' pc' ls (.int r :: st) Q))) : E Θ (d + 1) mc ms y cc nL ret cl sl n G pc ls (v3 :: v2 :: v1 :: v0 :: st) Q := fun a b => E_S (As := [v0, v1, v2, v3]) hk hd rfl hst K a b (fun v G' hq => by
    cases v with
    | none => exact hq.elim
    | some r => exact hq) a b
theorem E_V4i {kb : Nat} {fs : List Value} {v0 v1 v2 v3 : Value} (hk : VOk y.cls i ci y' cc' nL' ret' 4) (hd : Dc cc pc (.invokevirtual i) 3 pc') (hst : (st.map fun v => v.category).sum ≤ 8) (hkb : kb < n) (hGb : G kb = .inr (ci, fs)) (K : C Θ d 0 0 y' cc' nL' ret' (.ref (tb Θ + kb) :: [v0, v1, v2, v3]) n G (Qi (fun r G' => E Θ (d + 1) mc ms y cc nL ret cl sl n G' pc' ls (.int r :: st) Q))) : E Θ (d + 1) mc ms y cc nL ret cl sl n G pc ls (v3 :: v2 :: v1 :: v0 :: .ref (tb Θ + kb) :: st) Q := fun a b => E_V (As := [v0, v1, v2, v3]) hk hd rfl hst hkb hGb K a b (fun v G' hq => by
    cases v with
    | none => exact hq.elim
    | some r => exact hq) a b
theorem E_S4v {v0 v1 v2 v3 : Value} (hk : SOk y.cls i y' cc' nL' ret' 4) (hd : Dc cc pc (.invokestatic i) 3 pc') (hst : (st.map fun v => v.category).sum ≤ 8) (K : C Θ d 0 0 y' cc' nL' ret' [v0, v1, v2, v3] n G (Qv (fun G' => E Θ (d + 1) mc ms y cc nL ret cl sl n G' pc' ls st Q))) : E Θ (d + 1) mc ms y cc nL ret cl sl n G pc ls (v3 :: v2 :: v1 :: v0 :: st) Q := fun a b => E_S (As := [v0, v1, v2, v3]) hk hd rfl hst K a b (fun v G' hq => by
    cases v with
    | none => exact hq
    | some r => exact hq.elim) a b
theorem E_V4v {kb : Nat} {fs : List Value} {v0 v1 v2 v3 : Value} (hk : VOk y.cls i ci y' cc' nL' ret' 4) (hd : Dc cc pc (.invokevirtual i) 3 pc') (hst : (st.map fun v => v.category).sum ≤ 8) (hkb : kb < n) (hGb : G kb = .inr (ci, fs)) (K : C Θ d 0 0 y' cc' nL' ret' (.ref (tb Θ + kb) :: [v0, v1, v2, v3]) n G (Qv (fun G' => E Θ (d + 1) mc ms y cc nL ret cl sl n G' pc' ls st Q))) : E Θ (d + 1) mc ms y cc nL ret cl sl n G pc ls (v3 :: v2 :: v1 :: v0 :: .ref (tb Θ + kb) :: st) Q := fun a b => E_V (As := [v0, v1, v2, v3]) hk hd rfl hst hkb hGb K a b (fun v G' hq => by
    cases v with
    | none => exact hq
    | some r => exact hq.elim) a b
theorem E_S5i {v0 v1 v2 v3 v4 : Value} (hk : SOk y.cls i y' cc' nL' ret' 5) (hd : Dc cc pc (.invokestatic i) 3 pc') (hst : (st.map fun v => v.category).sum ≤ 8) (K : C Θ d 0 0 y' cc' nL' ret' [v0, v1, v2, v3, v4] n G (Qi (fun r G' => E Θ (d + 1) mc ms y cc nL ret cl sl n G' pc' ls (.int r :: st) Q))) : E Θ (d + 1) mc ms y cc nL ret cl sl n G pc ls (v4 :: v3 :: v2 :: v1 :: v0 :: st) Q := fun a b => E_S (As := [v0, v1, v2, v3, v4]) hk hd rfl hst K a b (fun v G' hq => by
    cases v with
    | none => exact hq.elim
    | some r => exact hq) a b
theorem E_V5i {kb : Nat} {fs : List Value} {v0 v1 v2 v3 v4 : Value} (hk : VOk y.cls i ci y' cc' nL' ret' 5) (hd : Dc cc pc (.invokevirtual i) 3 pc') (hst : (st.map fun v => v.category).sum ≤ 8) (hkb : kb < n) (hGb : G kb = .inr (ci, fs)) (K : C Θ d 0 0 y' cc' nL' ret' (.ref (tb Θ + kb) :: [v0, v1, v2, v3, v4]) n G (Qi (fun r G' => E Θ (d + 1) mc ms y cc nL ret cl sl n G' pc' ls (.int r :: st) Q))) : E Θ (d + 1) mc ms y cc nL ret cl sl n G pc ls (v4 :: v3 :: v2 :: v1 :: v0 :: .ref (tb Θ + kb) :: st) Q := fun a b => E_V (As := [v0, v1, v2, v3, v4]) hk hd rfl hst hkb hGb K a b (fun v G' hq => by
    cases v with
    | none => exact hq.elim
    | some r => exact hq) a b
theorem E_S5v {v0 v1 v2 v3 v4 : Value} (hk : SOk y.cls i y' cc' nL' ret' 5) (hd : Dc cc pc (.invokestatic i) 3 pc') (hst : (st.map fun v => v.category).sum ≤ 8) (K : C Θ d 0 0 y' cc' nL' ret' [v0, v1, v2, v3, v4] n G (Qv (fun G' => E Θ (d + 1) mc ms y cc nL ret cl sl n G' pc' ls st Q))) : E Θ (d + 1) mc ms y cc nL ret cl sl n G pc ls (v4 :: v3 :: v2 :: v1 :: v0 :: st) Q := fun a b => E_S (As := [v0, v1, v2, v3, v4]) hk hd rfl hst K a b (fun v G' hq => by
    cases v with
    | none => exact hq
    | some r => exact hq.elim) a b
theorem E_V5v {kb : Nat} {fs : List Value} {v0 v1 v2 v3 v4 : Value} (hk : VOk y.cls i ci y' cc' nL' ret' 5) (hd : Dc cc pc (.invokevirtual i) 3 pc') (hst : (st.map fun v => v.category).sum ≤ 8) (hkb : kb < n) (hGb : G kb = .inr (ci, fs)) (K : C Θ d 0 0 y' cc' nL' ret' (.ref (tb Θ + kb) :: [v0, v1, v2, v3, v4]) n G (Qv (fun G' => E Θ (d + 1) mc ms y cc nL ret cl sl n G' pc' ls st Q))) : E Θ (d + 1) mc ms y cc nL ret cl sl n G pc ls (v4 :: v3 :: v2 :: v1 :: v0 :: .ref (tb Θ + kb) :: st) Q := fun a b => E_V (As := [v0, v1, v2, v3, v4]) hk hd rfl hst hkb hGb K a b (fun v G' hq => by
    cases v with
    | none => exact hq
    | some r => exact hq.elim) a b
end Calls
