/-! a class's table: its number, name, fields, types -/
def Kc (ci : Nat) (C : String) (T : u_T) (N : Nat) (ty : Nat → FieldType) : Prop := vwCl[ci]? = some (C, T, N) ∧ (∀ w ∈ u_ws C T N, w ∈ TG) ∧ (∀ k, k < N → parseFieldDescriptor (T k).2.2.1 = some (ty k)) ∧ (∀ a, a < N → ∀ b, b < N → a ≠ b → (T a).2.1 ≠ (T b).2.1) ∧ Cond.instantiable C N ∈ TG ∧ Cond.initialized C ∈ TG
/-- a field link: in the class own by the number i, the field j of class ci -/
def FA (own : String) (i ci j : Nat) (t : FieldType) (fin : Bool) : Prop := ∃ (C : String) (T : u_T) (N : Nat) (ty : Nat → FieldType), Kc ci C T N ty ∧ j < N ∧ parseFieldDescriptor (T j).2.2.1 = some t ∧ (T j).2.2.2 = fin ∧ (Cond.fieldLink own i (T j).1 (T j).2.1 (T j).2.2.1 ∈ TG ∨ ∃ host, Cond.fieldLinkNest own i (T j).1 (T j).2.1 (T j).2.2.1 host ∈ lw_tbl)
theorem Hs.up {Θ : Th} {n : Nat} {G : HP} {H1 : Heap} {k : Nat} {e : va_E} (hk : k < n) (hP : va_P (tD Θ) vwCl ((wl (tb Θ) n G).set k (tb Θ + k, e)) H1) : Hs Θ n (va_up G k e) H1 := by
  unfold Hs
  rw [← wl_set hk]
  exact hP
theorem Hs.sz {Θ : Th} {n cl : Nat} {G : HP} {H H0 : Heap} {locs : List Loc} (hH : Hs Θ n G H) (hn : H0.size + cl = tb Θ + n) (hb : tb Θ ≤ H0.size) (hS : va_S (AA Θ) H0 H locs) (hu : H.size ≤ H0.size + cl) : H.size = tb Θ + n := by
  have h1 := hS.1
  by_cases h0 : n = 0
  · omega
  · have := (hH (n - 1) _ (wl_get (by omega))).lt
    simp only at this
    omega
section Heap
variable {Θ : Th} {d mc ms : Nat} {y : MethodName} {cc : ByteArray} {nL : Nat} {ret : Option FieldType} {cl sl n : Nat} {G : HP} {pc pc' : Nat} {ls : LV} {st : List Value} {Q : QT}
theorem E_get {i ci j k : Nat} {t : FieldType} {fin : Bool} {fs : List Value} {v : Value} (hF : FA y.cls i ci j t fin) (hd : Dc cc pc (.getfield i) 3 pc') (hk : k < n) (hG : G k = .inr (ci, fs)) (hv : fs[j]? = some v) (K : E Θ d mc ms y cc nL ret cl sl n G pc' ls (v :: st) Q) : E Θ d mc ms y cc nL ret cl sl n G pc ls (.ref (tb Θ + k) :: st) Q := by
  obtain ⟨hd, rfl⟩ := hd
  intro a b p e R s m args below meth c hE hn H locs la hH hS hl Z hz
  obtain ⟨C, T, N, ty, hK, hj, -, -, hw | ⟨host, hw⟩⟩ := hF
  · exact va_get (D := tD Θ) (Ts := TG) hE.1 hE.2.1 hE.2.2.2.2.2.2.1 hK.2.1 hE.2.2.2.2.2.1 hE.2.2.2.2.2.2.2.1.1 hH k (wl_at hk hG) hK.1 j hj (hE.2.2.2.2.2.2.1 _ hw) (fun _ h9 => h9) hv hd (K a b p e R s m args below meth c hE hn H locs la hH hS hl Z hz)
  · exact va_getN (D := tD Θ) (Ts := TG) hE.1 hE.2.1 hE.2.2.2.2.2.2.1 hK.2.1 hE.2.2.2.2.2.1 hE.2.2.2.2.2.2.2.1.1 hH k (wl_at hk hG) hK.1 j hj (va_Nw.use rfl (hE.2.2.2.2.2.2.2.1.2.1.1 _ hw rfl)) (fun _ h9 => h9) hv hd (K a b p e R s m args below meth c hE hn H locs la hH hS hl Z hz)
theorem E_put {i ci j k : Nat} {t : FieldType} {fs : List Value} {v : Value} (hF : FA y.cls i ci j t false) (hd : Dc cc pc (.putfield i) 3 pc') (hk : k < n) (hG : G k = .inr (ci, fs)) (hnr : narrow t v = v) (hft : fits t v = true) (hl0 : j < fs.length) (K : E Θ d mc ms y cc nL ret cl sl n (va_up G k (.inr (ci, fs.set j v))) pc' ls st Q) : E Θ d mc ms y cc nL ret cl sl n G pc ls (v :: .ref (tb Θ + k) :: st) Q := by
  obtain ⟨hd, rfl⟩ := hd
  intro a b p e R s m args below meth c hE hn H locs la hH hS hl Z hz
  obtain ⟨C, T, N, ty, hK, hj, ht, hfin, hw | ⟨host, hw⟩⟩ := hF
  · exact va_put (D := tD Θ) (Ts := TG) hE.1 hE.2.1 hE.2.2.2.2.2.2.1 hK.2.1 ty hK.2.2.1 hK.2.2.2.1 hE.2.2.2.2.2.1 hE.2.2.2.2.2.2.2.1.1 hH wl_D hS k (wl_at hk hG) hK.1 j hj (hE.2.2.2.2.2.2.1 _ hw) (fun _ h9 => h9) hfin ht hnr hft hl0 hd (fun H1 locs1 h1 h2 h3 => (K a b p e R s m args below meth c hE hn H1 locs1 la (Hs.up hk h1) h3 hl Z hz))
  · exact va_putN (D := tD Θ) (Ts := TG) hE.1 hE.2.1 hE.2.2.2.2.2.2.1 hK.2.1 ty hK.2.2.1 hK.2.2.2.1 hE.2.2.2.2.2.1 hE.2.2.2.2.2.2.2.1.1 hH wl_D hS k (wl_at hk hG) hK.1 j hj (va_Nw.use rfl (hE.2.2.2.2.2.2.2.1.2.1.1 _ hw rfl)) (fun _ h9 => h9) hfin ht hnr hft hl0 hd (fun H1 locs1 h1 h2 h3 => (K a b p e R s m args below meth c hE hn H1 locs1 la (Hs.up hk h1) h3 hl Z hz))
/-- a final field's link in its own class -/
def FP (own : String) (i ci j : Nat) (t : FieldType) : Prop := ∃ (C : String) (T : u_T) (N : Nat) (ty : Nat → FieldType), Kc ci C T N ty ∧ j < N ∧ parseFieldDescriptor (T j).2.2.1 = some t ∧ (T j).2.2.2 = true ∧ (T j).1 = own ∧ Cond.fieldLink own i (T j).1 (T j).2.1 (T j).2.2.1 ∈ TG
theorem E_putF {i ci j k : Nat} {t : FieldType} {fs : List Value} {v : Value} (hF : FP y.cls i ci j t) (hd : Dc cc pc (.putfield i) 3 pc') (hy : y.name = "<init>") (hk : k < n) (hG : G k = .inr (ci, fs)) (hnr : narrow t v = v) (hft : fits t v = true) (hl0 : j < fs.length) (K : E Θ d mc ms y cc nL ret cl sl n (va_up G k (.inr (ci, fs.set j v))) pc' ls st Q) : E Θ d mc ms y cc nL ret cl sl n G pc ls (v :: .ref (tb Θ + k) :: st) Q := by
  obtain ⟨hd, rfl⟩ := hd
  intro a b p e R s m args below meth c hE hn H locs la hH hS hl Z hz
  obtain ⟨C, T, N, ty, hK, hj, ht, hfin, ho, hw⟩ := hF
  exact va_putF (D := tD Θ) (Ts := TG) hE.1 hE.2.1 hE.2.2.2.2.2.2.1 hK.2.1 ty hK.2.2.1 hK.2.2.2.1 hE.2.2.2.2.2.1 hE.2.2.2.2.2.2.2.1.1 hH wl_D hS k (wl_at hk hG) hK.1 j hj (hE.2.2.2.2.2.2.1 _ hw) (fun _ h9 => h9) hfin (hE.2.2.2.2.2.2.2.2.2.2.2 hy) ho ht hnr hft hl0 hd (fun H1 locs1 h1 h2 h3 => (K a b p e R s m args below meth c hE hn H1 locs1 la (Hs.up hk h1) h3 hl Z hz))
theorem E_iald {k len j : Nat} {f : Nat → Int32} {x : Int32} (hd : Dc cc pc (.iaload) 1 pc') (hk : k < n) (hG : G k = iA Θ 0 len f) (hx : x = nI j) (hj : j < len) (hlen : len < 2 ^ 31) (K : E Θ d mc ms y cc nL ret cl sl n G pc' ls (.int (f j) :: st) Q) : E Θ d mc ms y cc nL ret cl sl n G pc ls (.int x :: .ref (tb Θ + k) :: st) Q := by
  obtain ⟨hd, rfl⟩ := hd
  subst hx
  intro a b p e R s m args below meth c hE hn H locs la hH hS hl Z hz
  refine va_iald hE.1 hE.2.1 hE.2.2.2.2.2.2.2.1.1 hH k 0 (wl_at hk hG) rfl (vp_in_nI hj hlen) hd ?_
  rw [nI_clamp (Nat.lt_trans hj hlen)]
  exact K a b p e R s m args below meth c hE hn H locs la hH hS hl Z hz
theorem E_cald {k len j : Nat} {f : Nat → Int32} {x : Int32} (hd : Dc cc pc (.caload) 1 pc') (hk : k < n) (hG : G k = iA Θ 1 len f) (hx : x = nI j) (hj : j < len) (hlen : len < 2 ^ 31) (K : E Θ d mc ms y cc nL ret cl sl n G pc' ls (.int (f j) :: st) Q) : E Θ d mc ms y cc nL ret cl sl n G pc ls (.int x :: .ref (tb Θ + k) :: st) Q := by
  obtain ⟨hd, rfl⟩ := hd
  subst hx
  intro a b p e R s m args below meth c hE hn H locs la hH hS hl Z hz
  refine va_cald hE.1 hE.2.1 hE.2.2.2.2.2.2.2.1.1 hH k 1 (wl_at hk hG) rfl (vp_in_nI hj hlen) hd ?_
  rw [nI_clamp (Nat.lt_trans hj hlen)]
  exact K a b p e R s m args below meth c hE hn H locs la hH hS hl Z hz
theorem E_zald {k len j : Nat} {f : Nat → Int32} {x : Int32} (hd : Dc cc pc (.baload) 1 pc') (hk : k < n) (hG : G k = iA Θ 2 len f) (hx : x = nI j) (hj : j < len) (hlen : len < 2 ^ 31) (K : E Θ d mc ms y cc nL ret cl sl n G pc' ls (.int (f j) :: st) Q) : E Θ d mc ms y cc nL ret cl sl n G pc ls (.int x :: .ref (tb Θ + k) :: st) Q := by
  obtain ⟨hd, rfl⟩ := hd
  subst hx
  intro a b p e R s m args below meth c hE hn H locs la hH hS hl Z hz
  refine va_zald hE.1 hE.2.1 hE.2.2.2.2.2.2.2.1.1 hH k 2 (wl_at hk hG) rfl (vp_in_nI hj hlen) hd ?_
  rw [nI_clamp (Nat.lt_trans hj hlen)]
  exact K a b p e R s m args below meth c hE hn H locs la hH hS hl Z hz
theorem E_iast {k len j : Nat} {f : Nat → Int32} {x x0 : Int32} (hd : Dc cc pc (.iastore) 1 pc') (hk : k < n) (hG : G k = iA Θ 0 len f) (hx : x = nI j) (hj : j < len) (hlen : len < 2 ^ 31) (K : E Θ d mc ms y cc nL ret cl sl n (va_up G k (iA Θ 0 len (upd f j x0))) pc' ls st Q) : E Θ d mc ms y cc nL ret cl sl n G pc ls (.int x0 :: .int x :: .ref (tb Θ + k) :: st) Q := by
  obtain ⟨hd, rfl⟩ := hd
  subst hx
  intro a b p e R s m args below meth c hE hn H locs la hH hS hl Z hz
  refine va_iast hE.1 hE.2.1 hE.2.2.2.2.2.2.2.1.1 hH wl_D hS k 0 (wl_at hk hG) rfl (vp_in_nI hj hlen) hd (fun H1 locs1 h1 h2 h3 => ?_)
  rw [nI_clamp (Nat.lt_trans hj hlen)] at h1
  exact (K a b p e R s m args below meth c hE hn H1 locs1 la (Hs.up hk h1) h3 hl Z hz)
theorem E_cast {k len j : Nat} {f : Nat → Int32} {x x0 : Int32} (hd : Dc cc pc (.castore) 1 pc') (hk : k < n) (hG : G k = iA Θ 1 len f) (hx : x = nI j) (hj : j < len) (hlen : len < 2 ^ 31) (K : E Θ d mc ms y cc nL ret cl sl n (va_up G k (iA Θ 1 len (upd f j (vp_nar .char x0)))) pc' ls st Q) : E Θ d mc ms y cc nL ret cl sl n G pc ls (.int x0 :: .int x :: .ref (tb Θ + k) :: st) Q := by
  obtain ⟨hd, rfl⟩ := hd
  subst hx
  intro a b p e R s m args below meth c hE hn H locs la hH hS hl Z hz
  refine va_cast hE.1 hE.2.1 hE.2.2.2.2.2.2.2.1.1 hH wl_D hS k 1 (wl_at hk hG) rfl (vp_in_nI hj hlen) hd (fun H1 locs1 h1 h2 h3 => ?_)
  rw [nI_clamp (Nat.lt_trans hj hlen)] at h1
  exact (K a b p e R s m args below meth c hE hn H1 locs1 la (Hs.up hk h1) h3 hl Z hz)
theorem E_zast {k len j : Nat} {f : Nat → Int32} {x x0 : Int32} (hd : Dc cc pc (.bastore) 1 pc') (hk : k < n) (hG : G k = iA Θ 2 len f) (hx : x = nI j) (hj : j < len) (hlen : len < 2 ^ 31) (K : E Θ d mc ms y cc nL ret cl sl n (va_up G k (iA Θ 2 len (upd f j (vp_nar .boolean x0)))) pc' ls st Q) : E Θ d mc ms y cc nL ret cl sl n G pc ls (.int x0 :: .int x :: .ref (tb Θ + k) :: st) Q := by
  obtain ⟨hd, rfl⟩ := hd
  subst hx
  intro a b p e R s m args below meth c hE hn H locs la hH hS hl Z hz
  refine va_zast hE.1 hE.2.1 hE.2.2.2.2.2.2.2.1.1 hH wl_D hS k 2 (wl_at hk hG) rfl (vp_in_nI hj hlen) hd (fun H1 locs1 h1 h2 h3 => ?_)
  rw [nI_clamp (Nat.lt_trans hj hlen)] at h1
  exact (K a b p e R s m args below meth c hE hn H1 locs1 la (Hs.up hk h1) h3 hl Z hz)
theorem E_alen {k len t : Nat} {f : Nat → Int32} {ty : FieldType} (hd : Dc cc pc .arraylength 1 pc') (hk : k < n) (hG : G k = iA Θ t len f) (ht : (tys Θ)[t]? = some (tk Θ t, ty)) (K : E Θ d mc ms y cc nL ret cl sl n G pc' ls (.int (nI len) :: st) Q) : E Θ d mc ms y cc nL ret cl sl n G pc ls (.ref (tb Θ + k) :: st) Q := by
  obtain ⟨hd, rfl⟩ := hd
  intro a b p e R s m args below meth c hE hn H locs la hH hS hl Z hz
  exact va_alen hE.1 hE.2.1 hE.2.2.2.2.2.2.2.1.1 hH k t (wl_at hk hG) ht rfl hd (K a b p e R s m args below meth c hE hn H locs la hH hS hl Z hz)
theorem E_alenR {k len t : Nat} {f : Nat → Option Nat} {ty : FieldType} (hd : Dc cc pc .arraylength 1 pc') (hk : k < n) (hG : G k = rA Θ t len f) (ht : (tys Θ)[t]? = some (tk Θ t, ty)) (K : E Θ d mc ms y cc nL ret cl sl n G pc' ls (.int (nI len) :: st) Q) : E Θ d mc ms y cc nL ret cl sl n G pc ls (.ref (tb Θ + k) :: st) Q := by
  obtain ⟨hd, rfl⟩ := hd
  intro a b p e R s m args below meth c hE hn H locs la hH hS hl Z hz
  exact va_alen hE.1 hE.2.1 hE.2.2.2.2.2.2.2.1.1 hH k t (wl_at hk hG) ht rfl hd (K a b p e R s m args below meth c hE hn H locs la hH hS hl Z hz)
theorem E_aald {k len t j : Nat} {f : Nat → Option Nat} {x : Int32} {C : String} (hd : Dc cc pc .aaload 1 pc') (hk : k < n) (hG : G k = rA Θ t len f) (ht : (tys Θ)[t]? = some (tk Θ t, .object C)) (hx : x = nI j) (hj : j < len) (hlen : len < 2 ^ 31) {q : Nat} (hq : f j = some q) (K : E Θ d mc ms y cc nL ret cl sl n G pc' ls (.ref q :: st) Q) : E Θ d mc ms y cc nL ret cl sl n G pc ls (.int x :: .ref (tb Θ + k) :: st) Q := by
  obtain ⟨hd, rfl⟩ := hd
  subst hx
  intro a b p e R s m args below meth c hE hn H locs la hH hS hl Z hz
  refine va_aldq hE.1 hE.2.1 hE.2.2.2.2.2.2.2.1.1 hH k t (wl_at hk hG) ht (vp_in_nI hj hlen) hd ?_
  rw [nI_clamp (Nat.lt_trans hj hlen), hq]
  exact K a b p e R s m args below meth c hE hn H locs la hH hS hl Z hz
theorem E_aaldN {k len t j : Nat} {f : Nat → Option Nat} {x : Int32} {C : String} (hd : Dc cc pc .aaload 1 pc') (hk : k < n) (hG : G k = rA Θ t len f) (ht : (tys Θ)[t]? = some (tk Θ t, .object C)) (hx : x = nI j) (hj : j < len) (hlen : len < 2 ^ 31) (hq : f j = none) (K : E Θ d mc ms y cc nL ret cl sl n G pc' ls (.null :: st) Q) : E Θ d mc ms y cc nL ret cl sl n G pc ls (.int x :: .ref (tb Θ + k) :: st) Q := by
  obtain ⟨hd, rfl⟩ := hd
  subst hx
  intro a b p e R s m args below meth c hE hn H locs la hH hS hl Z hz
  refine va_aldq hE.1 hE.2.1 hE.2.2.2.2.2.2.2.1.1 hH k t (wl_at hk hG) ht (vp_in_nI hj hlen) hd ?_
  rw [nI_clamp (Nat.lt_trans hj hlen), hq]
  exact K a b p e R s m args below meth c hE hn H locs la hH hS hl Z hz
theorem E_aast {k len t j ci kv : Nat} {f : Nat → Option Nat} {x : Int32} {C : String} {r : vw_C} {fs : List Value} (hd : Dc cc pc .aastore 1 pc') (hk : k < n) (hG : G k = rA Θ t len f) (ht : (tys Θ)[t]? = some (tk Θ t, .object C)) (hx : x = nI j) (hj : j < len) (hlen : len < 2 ^ 31) (hkv : kv < n) (hGv : G kv = .inr (ci, fs)) (hc : vwCl[ci]? = some r) (has : C = r.1 ∨ Cond.castable r.1 C ∈ lw_tbl) (K : E Θ d mc ms y cc nL ret cl sl n (va_up G k (rA Θ t len (va_up f j (some (tb Θ + kv))))) pc' ls st Q) : E Θ d mc ms y cc nL ret cl sl n G pc ls (.ref (tb Θ + kv) :: .int x :: .ref (tb Θ + k) :: st) Q := by
  obtain ⟨hd, rfl⟩ := hd
  subst hx
  intro a b p e R s m args below meth c hE hn H locs la hH hS hl Z hz
  rcases has with rfl | has
  · refine va_astq hE.1 hE.2.1 hE.2.2.2.2.2.2.2.1.1 hH wl_D hS k t kv ci (wl_at hk hG) ht (wl_at hkv hGv) hc (vp_in_nI hj hlen) hd (fun H1 locs1 h1 h2 h3 => ?_)
    rw [nI_clamp (Nat.lt_trans hj hlen)] at h1
    exact (K a b p e R s m args below meth c hE hn H1 locs1 la (Hs.up hk h1) h3 hl Z hz)
  · refine va_astqO hE.1 hE.2.1 hE.2.2.2.2.2.2.2.1.1 hH wl_D hS k t kv ci (wl_at hk hG) ht (hE.2.2.2.2.2.2.2.1.2.1.1 _ has rfl) (wl_at hkv hGv) hc (vp_in_nI hj hlen) hd (fun H1 locs1 h1 h2 h3 => ?_)
    rw [nI_clamp (Nat.lt_trans hj hlen)] at h1
    exact (K a b p e R s m args below meth c hE hn H1 locs1 la (Hs.up hk h1) h3 hl Z hz)
theorem E_aastN {k len t j : Nat} {f : Nat → Option Nat} {x : Int32} {C : String} (hd : Dc cc pc .aastore 1 pc') (hk : k < n) (hG : G k = rA Θ t len f) (ht : (tys Θ)[t]? = some (tk Θ t, .object C)) (hx : x = nI j) (hj : j < len) (hlen : len < 2 ^ 31) (K : E Θ d mc ms y cc nL ret cl sl n (va_up G k (rA Θ t len (va_up f j none))) pc' ls st Q) : E Θ d mc ms y cc nL ret cl sl n G pc ls (.null :: .int x :: .ref (tb Θ + k) :: st) Q := by
  obtain ⟨hd, rfl⟩ := hd
  subst hx
  intro a b p e R s m args below meth c hE hn H locs la hH hS hl Z hz
  refine va_astqN hE.1 hE.2.1 hE.2.2.2.2.2.2.2.1.1 hH wl_D hS k t (wl_at hk hG) ht (vp_in_nI hj hlen) hd (fun H1 locs1 h1 h2 h3 => ?_)
  rw [nI_clamp (Nat.lt_trans hj hlen)] at h1
  exact (K a b p e R s m args below meth c hE hn H1 locs1 la (Hs.up hk h1) h3 hl Z hz)
theorem Hs.push {Θ : Th} {n : Nat} {G : HP} {H H1 : Heap} {e : va_E} (hH : Hs Θ n G H) (hz : H.size = tb Θ + n) (o1 : ∀ q : Nat, q < H.size → H1[q]? = H[q]?) (he : va_at (tD Θ) vwCl (tb Θ + n, e) H1) : Hs Θ (n + 1) (va_up G n e) H1 := by
  unfold Hs
  rw [← wl_push]
  refine (hH.kept (fun k x hx => o1 x.1 ((hH k x hx).lt))).app (fun k x hx => ?_)
  have hk : k < 1 := (List.getElem?_eq_some_iff.mp hx).1
  rw [show k = 0 by omega] at hx
  cases hx
  exact he
theorem Sf.push {Θ : Th} {H0 H H1 : Heap} {locs : List Loc} (hS : va_S (AA Θ) H0 H locs) (z1 : H1.size = H.size + 1) (o1 : ∀ q : Nat, q < H.size → H1[q]? = H[q]?) : va_S (AA Θ) H0 H1 locs := ⟨Nat.le_trans hS.1 (by omega), fun x h1 h2 => (o1 x (Nat.lt_of_lt_of_le h1 hS.1)).trans (hS.2.1 x h1 h2), hS.2.2⟩
theorem E_new {i ci N : Nat} {C : String} {T : u_T} {ty : Nat → FieldType} {fs : List Value} (hK0 : Kc ci C T N ty) (hw : Cond.classLink y.cls i C ∈ TG) (hd : Dc cc pc (.new i) 3 pc') (hfs : ∀ j, j < N → defaultValue (ty j) = vp_V fs j) (hc1 : cl + 1 ≤ mc) (hs1 : sl + N ≤ ms) (K : E Θ d mc ms y cc nL ret (cl + 1) (sl + N) (n + 1) (va_up G n (.inr (ci, fs))) pc' ls (.ref (tb Θ + n) :: st) Q) : E Θ d mc ms y cc nL ret cl sl n G pc ls st Q := by
  obtain ⟨hd, rfl⟩ := hd
  intro a b p e R s m args below meth c hE hn H locs la hH hS hl Z hz
  intro T0 hT X
  have hu : H.size ≤ s.heap.size + cl := by rw [← hT]; exact X.same.2.2.1
  have hsz := hH.sz hn hE.2.2.2.2.2.2.2.2.2.1 hS hu
  have hKn := hE.2.2.2.2.2.2.2.1.1.1 ci _ hK0.1
  refine (show W p (tL Θ) e R s m args below meth c H locs cl sl Z (F0 m pc la st) from ?_) T0 hT X
  refine W.newcK hE.1 hE.2.1 hE.2.2.2.2.2.1 (hE.2.2.2.2.2.2.1 _ hw) (hE.2.2.2.2.2.2.1 _ hK0.2.2.2.2.1) (hE.2.2.2.2.2.2.1 _ hK0.2.2.2.2.2) rfl hd (by have := hE.2.2.2.2.2.2.2.2.2.2.1.2.2.1; omega) (by have := hE.2.2.2.2.2.2.2.2.2.2.1.2.2.2; omega) hKn.2.1 hsz fun H1 kC hkC e1 z1 o1 => ?_
  exact K hc1 hs1 p e R s m args below meth c hE (by omega) H1 locs la (hH.push hsz (fun q hq => o1 q (by omega)) ⟨_, hK0.1, (u_born ty hE.2.2.2.2.2.2.1 hK0.2.1 hKn hkC e1 hK0.2.2.1).to hfs⟩) (Sf.push hS (by omega) (fun q hq => o1 q (by omega))) hl Z hz
theorem E_newi {len : Nat} {x : Int32} (hw : Cond.arrayClass .int ∈ TG) (hd : Dc cc pc (.newarray .int) 2 pc') (hx : x = nI len) (hlen : len < 2 ^ 20) (hc1 : cl + 1 ≤ mc) (hs1 : sl + len ≤ ms) (K : E Θ d mc ms y cc nL ret (cl + 1) (sl + len) (n + 1) (va_up G n (iA Θ 0 len (fun _ => 0))) pc' ls (.ref (tb Θ + n) :: st) Q) : E Θ d mc ms y cc nL ret cl sl n G pc ls (.int x :: st) Q := by
  obtain ⟨hd, rfl⟩ := hd
  subst hx
  intro a b p e R s m args below meth c hE hn H locs la hH hS hl Z hz
  intro T0 hT X
  have hu : H.size ≤ s.heap.size + cl := by rw [← hT]; exact X.same.2.2.1
  have hsz := hH.sz hn hE.2.2.2.2.2.2.2.2.2.1 hS hu
  refine (show W p (tL Θ) e R s m args below meth c H locs cl sl Z (F0 m pc la (.int (nI len) :: st)) from ?_) T0 hT X
  refine va_newaK (atype := .int) hE.1 hE.2.1 (hE.2.2.2.2.2.2.1 _ hw) rfl hd rfl (nI_pos (by omega)) (nI_clamp (by omega)) (by show len * _ ≤ _; simp [componentBytes, newarray.typeOf]; omega) (by have := hE.2.2.2.2.2.2.2.2.2.2.1.2.2.1; omega) (by have := hE.2.2.2.2.2.2.2.2.2.2.1.2.2.2; omega) hsz fun H1 cA e1 z1 o1 hAr hNm => ?_
  have hcA : cA = tk Θ 0 := by
    have h2 : s.vm.findClass ("[" ++ (newarray.typeOf .int).toString) = some (tk Θ 0) := (hE.2.2.2.2.2.2.2.1.1.2 0 _ rfl).2
    exact Option.some.inj (hNm.symm.trans h2)
  subst hcA
  exact K hc1 hs1 p e R s m args below meth c hE (by omega) H1 locs la (hH.push hsz (fun q hq => o1 q (by omega)) e1) (Sf.push hS (by omega) (fun q hq => o1 q (by omega))) hl Z hz
theorem E_newc {len : Nat} {x : Int32} (hw : Cond.arrayClass .char ∈ TG) (hd : Dc cc pc (.newarray .char) 2 pc') (hx : x = nI len) (hlen : len < 2 ^ 20) (hc1 : cl + 1 ≤ mc) (hs1 : sl + len ≤ ms) (K : E Θ d mc ms y cc nL ret (cl + 1) (sl + len) (n + 1) (va_up G n (iA Θ 1 len (fun _ => 0))) pc' ls (.ref (tb Θ + n) :: st) Q) : E Θ d mc ms y cc nL ret cl sl n G pc ls (.int x :: st) Q := by
  obtain ⟨hd, rfl⟩ := hd
  subst hx
  intro a b p e R s m args below meth c hE hn H locs la hH hS hl Z hz
  intro T0 hT X
  have hu : H.size ≤ s.heap.size + cl := by rw [← hT]; exact X.same.2.2.1
  have hsz := hH.sz hn hE.2.2.2.2.2.2.2.2.2.1 hS hu
  refine (show W p (tL Θ) e R s m args below meth c H locs cl sl Z (F0 m pc la (.int (nI len) :: st)) from ?_) T0 hT X
  refine va_newaK (atype := .char) hE.1 hE.2.1 (hE.2.2.2.2.2.2.1 _ hw) rfl hd rfl (nI_pos (by omega)) (nI_clamp (by omega)) (by show len * _ ≤ _; simp [componentBytes, newarray.typeOf]; omega) (by have := hE.2.2.2.2.2.2.2.2.2.2.1.2.2.1; omega) (by have := hE.2.2.2.2.2.2.2.2.2.2.1.2.2.2; omega) hsz fun H1 cA e1 z1 o1 hAr hNm => ?_
  have hcA : cA = tk Θ 1 := by
    have h2 : s.vm.findClass ("[" ++ (newarray.typeOf .char).toString) = some (tk Θ 1) := (hE.2.2.2.2.2.2.2.1.1.2 1 _ rfl).2
    exact Option.some.inj (hNm.symm.trans h2)
  subst hcA
  exact K hc1 hs1 p e R s m args below meth c hE (by omega) H1 locs la (hH.push hsz (fun q hq => o1 q (by omega)) e1) (Sf.push hS (by omega) (fun q hq => o1 q (by omega))) hl Z hz
theorem E_newz {len : Nat} {x : Int32} (hw : Cond.arrayClass .boolean ∈ TG) (hd : Dc cc pc (.newarray .boolean) 2 pc') (hx : x = nI len) (hlen : len < 2 ^ 20) (hc1 : cl + 1 ≤ mc) (hs1 : sl + len ≤ ms) (K : E Θ d mc ms y cc nL ret (cl + 1) (sl + len) (n + 1) (va_up G n (iA Θ 2 len (fun _ => 0))) pc' ls (.ref (tb Θ + n) :: st) Q) : E Θ d mc ms y cc nL ret cl sl n G pc ls (.int x :: st) Q := by
  obtain ⟨hd, rfl⟩ := hd
  subst hx
  intro a b p e R s m args below meth c hE hn H locs la hH hS hl Z hz
  intro T0 hT X
  have hu : H.size ≤ s.heap.size + cl := by rw [← hT]; exact X.same.2.2.1
  have hsz := hH.sz hn hE.2.2.2.2.2.2.2.2.2.1 hS hu
  refine (show W p (tL Θ) e R s m args below meth c H locs cl sl Z (F0 m pc la (.int (nI len) :: st)) from ?_) T0 hT X
  refine va_newaK (atype := .boolean) hE.1 hE.2.1 (hE.2.2.2.2.2.2.1 _ hw) rfl hd rfl (nI_pos (by omega)) (nI_clamp (by omega)) (by show len * _ ≤ _; simp [componentBytes, newarray.typeOf]; omega) (by have := hE.2.2.2.2.2.2.2.2.2.2.1.2.2.1; omega) (by have := hE.2.2.2.2.2.2.2.2.2.2.1.2.2.2; omega) hsz fun H1 cA e1 z1 o1 hAr hNm => ?_
  have hcA : cA = tk Θ 2 := by
    have h2 : s.vm.findClass ("[" ++ (newarray.typeOf .boolean).toString) = some (tk Θ 2) := (hE.2.2.2.2.2.2.2.1.1.2 2 _ rfl).2
    exact Option.some.inj (hNm.symm.trans h2)
  subst hcA
  exact K hc1 hs1 p e R s m args below meth c hE (by omega) H1 locs la (hH.push hsz (fun q hq => o1 q (by omega)) e1) (Sf.push hS (by omega) (fun q hq => o1 q (by omega))) hl Z hz
theorem E_newq {i len t : Nat} {x : Int32} {C : String} (hw : Cond.classLink y.cls i C ∈ TG) (hao : C ∈ aoL) (ht : (tys Θ)[t]? = some (tk Θ t, .object C)) (hd : Dc cc pc (.anewarray i) 3 pc') (hx : x = nI len) (hlen : len < 2 ^ 20) (hc1 : cl + 1 ≤ mc) (hs1 : sl + len ≤ ms) (K : E Θ d mc ms y cc nL ret (cl + 1) (sl + len) (n + 1) (va_up G n (rA Θ t len (fun _ => none))) pc' ls (.ref (tb Θ + n) :: st) Q) : E Θ d mc ms y cc nL ret cl sl n G pc ls (.int x :: st) Q := by
  obtain ⟨hd, rfl⟩ := hd
  subst hx
  intro a b p e R s m args below meth c hE hn H locs la hH hS hl Z hz
  intro T0 hT X
  have hu : H.size ≤ s.heap.size + cl := by rw [← hT]; exact X.same.2.2.1
  have hsz := hH.sz hn hE.2.2.2.2.2.2.2.2.2.1 hS hu
  have ecl := nI_clamp (n := len) (by omega)
  refine (show W p (tL Θ) e R s m args below meth c H locs cl sl Z (F0 m pc la (.int (nI len) :: st)) from ?_) T0 hT X
  refine W.anew hE.1 hE.2.1 hE.2.2.2.2.2.1 (hE.2.2.2.2.2.2.1 _ hw) (va_AO.use (hE.2.2.2.2.2.2.2.1.2.1.2 C hao)) rfl hd rfl (nI_pos (by omega)) (by rw [ecl]; omega) (by have := hE.2.2.2.2.2.2.2.2.2.2.1.2.2.1; omega) (by rw [ecl]; have := hE.2.2.2.2.2.2.2.2.2.2.1.2.2.2; omega) fun cA kA comp f1 f2 f3 f4 => ?_
  rw [ecl]
  have hcA : cA = tk Θ t := by
    obtain ⟨kA', comp', -, -, -, h2⟩ := (hE.2.2.2.2.2.2.2.1.1.2 t _ ht).2
    exact Option.some.inj (f1.symm.trans h2)
  subst hcA
  generalize hH1 : H.push ({ cls := tk Θ t, slots := Array.replicate len .null, vm := .none } : Cell) = H1
  have z1 : H1.size = H.size + 1 := by rw [← hH1, Array.size_push]
  have e1 : H1[H.size]? = some (arrV (tk Θ t) len (fun _ => .null)) := by rw [← hH1, Array.getElem?_push_size, ← arrV_new]
  have o1 : ∀ q : Nat, q < H.size → H1[q]? = H[q]? := fun q hq => by rw [← hH1, Array.getElem?_push, if_neg (Nat.ne_of_lt hq)]
  rw [hsz] at e1 ⊢
  exact K hc1 hs1 p e R s m args below meth c hE (by omega) H1 locs la (hH.push hsz o1 e1) (Sf.push hS z1 o1) hl Z hz
theorem E_objInit {i k : Nat} (hw : Cond.methodLink y.cls i Lib.objectInit ∈ TG) (hw2 : Cond.instanceMethod Lib.objectInit ∈ TG) (hw3 : Cond.code Lib.objectInit ⟨#[0xb1]⟩ 1 none ∈ TG) (hd : Dc cc pc (.invokespecial i) 3 pc') (hst : (st.map fun v => v.category).sum ≤ 8) (K : E Θ (d + 1) mc ms y cc nL ret cl sl n G pc' ls st Q) : E Θ (d + 1) mc ms y cc nL ret cl sl n G pc ls (.ref k :: st) Q := by
  obtain ⟨hd, rfl⟩ := hd
  intro a b p e R s m args below meth c hE hn H locs la hH hS hl Z hz
  have hr := hE.2.2.2.2.2.2.2.2.2.2.1
  have hrm := lv_room (m := m) (pc := pc) (ls := la) (rest := .ref k :: st) hst
  exact W.objInit hE.1 hE.2.1 hE.2.2.2.2.2.1 (hE.2.2.2.2.2.2.1 _ hw) (hE.2.2.2.2.2.2.1 _ hw2) (hE.2.2.2.2.2.2.1 _ hw3) rfl (by rw [hE.2.2.1]; exact hl.1) rfl hd (by omega) (by omega) (K a b p e R s m args below meth c hE hn H locs la hH hS hl Z hz)
theorem E_mmax {i : Nat} {x z : Int32} (hw : Cond.methodLink y.cls i Lib.Math.max.name ∈ TG) (hw2 : Cond.static Lib.Math.max.name ∈ TG) (hw3 : Cond.initialized "java/lang/Math" ∈ TG) (hw4 : Cond.code Lib.Math.max.name Lib.Math.max.code 2 (some .int) ∈ TG) (hd : Dc cc pc (.invokestatic i) 3 pc') (hst : (st.map fun v => v.category).sum ≤ 8) (K : E Θ (d + 1) mc ms y cc nL ret cl sl n G pc' ls (.int (if x < z then z else x) :: st) Q) : E Θ (d + 1) mc ms y cc nL ret cl sl n G pc ls (.int z :: .int x :: st) Q := by
  obtain ⟨hd, rfl⟩ := hd
  intro a b p e R s m args below meth c hE hn H locs la hH hS hl Z hz
  have hr := hE.2.2.2.2.2.2.2.2.2.2.1
  exact va_mmax hE.1 hE.2.1 (by rw [hE.2.2.1]; exact hl.1.symm) hE.2.2.2.2.2.1 (hE.2.2.2.2.2.2.1 _ hw) (hE.2.2.2.2.2.2.1 _ hw2) (hE.2.2.2.2.2.2.1 _ hw3) (hE.2.2.2.2.2.2.1 _ hw4) (by omega) (by omega) (by omega) (by omega) hd (K a b p e R s m args below meth c hE hn H locs la hH hS hl Z hz)
theorem E_mmin {i : Nat} {x z : Int32} (hw : Cond.methodLink y.cls i Lib.Math.min.name ∈ TG) (hw2 : Cond.static Lib.Math.min.name ∈ TG) (hw3 : Cond.initialized "java/lang/Math" ∈ TG) (hw4 : Cond.code Lib.Math.min.name Lib.Math.min.code 2 (some .int) ∈ TG) (hd : Dc cc pc (.invokestatic i) 3 pc') (hst : (st.map fun v => v.category).sum ≤ 8) (K : E Θ (d + 1) mc ms y cc nL ret cl sl n G pc' ls (.int (if z < x then z else x) :: st) Q) : E Θ (d + 1) mc ms y cc nL ret cl sl n G pc ls (.int z :: .int x :: st) Q := by
  obtain ⟨hd, rfl⟩ := hd
  intro a b p e R s m args below meth c hE hn H locs la hH hS hl Z hz
  have hr := hE.2.2.2.2.2.2.2.2.2.2.1
  exact va_mmin hE.1 hE.2.1 (by rw [hE.2.2.1]; exact hl.1.symm) hE.2.2.2.2.2.1 (hE.2.2.2.2.2.2.1 _ hw) (hE.2.2.2.2.2.2.1 _ hw2) (hE.2.2.2.2.2.2.1 _ hw3) (hE.2.2.2.2.2.2.1 _ hw4) (by omega) (by omega) (by omega) (by omega) hd (K a b p e R s m args below meth c hE hn H locs la hH hS hl Z hz)
theorem E_mabs {i : Nat} {x : Int32} (hw : Cond.methodLink y.cls i Lib.Math.abs.name ∈ TG) (hw2 : Cond.static Lib.Math.abs.name ∈ TG) (hw3 : Cond.initialized "java/lang/Math" ∈ TG) (hw4 : Cond.code Lib.Math.abs.name Lib.Math.abs.code 1 (some .int) ∈ TG) (hd : Dc cc pc (.invokestatic i) 3 pc') (hst : (st.map fun v => v.category).sum ≤ 8) (K : E Θ (d + 1) mc ms y cc nL ret cl sl n G pc' ls (.int (if 0 ≤ x then x else 0 - x) :: st) Q) : E Θ (d + 1) mc ms y cc nL ret cl sl n G pc ls (.int x :: st) Q := by
  obtain ⟨hd, rfl⟩ := hd
  intro a b p e R s m args below meth c hE hn H locs la hH hS hl Z hz
  have hr := hE.2.2.2.2.2.2.2.2.2.2.1
  exact va_mabs hE.1 hE.2.1 (by rw [hE.2.2.1]; exact hl.1.symm) hE.2.2.2.2.2.1 (hE.2.2.2.2.2.2.1 _ hw) (hE.2.2.2.2.2.2.1 _ hw2) (hE.2.2.2.2.2.2.1 _ hw3) (hE.2.2.2.2.2.2.1 _ hw4) (by omega) (by omega) (by omega) (by omega) hd (K a b p e R s m args below meth c hE hn H locs la hH hS hl Z hz)
theorem E_copy {i k0 k n0 n1 sp dp len : Nat} {x1 x2 x3 : Int32} {f g : Nat → Int32} (hw : Cond.methodLink y.cls i arraycopyName ∈ TG) (hw1 : Cond.native arraycopyName ∈ TG) (hw2 : Cond.static arraycopyName ∈ TG) (hw3 : Cond.initialized "java/lang/System" ∈ TG) (hd : Dc cc pc (.invokestatic i) 3 pc') (hst : (st.map fun v => v.category).sum ≤ 8) (hk0 : k0 < n) (hG0 : G k0 = iA Θ 0 n0 f) (hk : k < n) (hG : G k = iA Θ 0 n1 g) (e1 : x1 = nI sp) (e2 : x2 = nI dp) (e3 : x3 = nI len) (h4 : sp + len ≤ n0) (h5 : dp + len ≤ n1) (hb0 : n0 < 2 ^ 31) (hb1 : n1 < 2 ^ 31) (K : E Θ (d + 1) mc ms y cc nL ret cl sl n (va_up G k (iA Θ 0 n1 (va_cpy f g sp dp len))) pc' ls st Q) : E Θ (d + 1) mc ms y cc nL ret cl sl n G pc ls (.int x3 :: .int x2 :: .ref (tb Θ + k) :: .int x1 :: .ref (tb Θ + k0) :: st) Q := by
  obtain ⟨hd, rfl⟩ := hd
  subst e1; subst e2; subst e3
  intro a b p e R s m args below meth c hE hn H locs la hH hS hl Z hz
  have hr := hE.2.2.2.2.2.2.2.2.2.2.1
  have c1 := nI_clamp (n := sp) (by omega)
  have c2 := nI_clamp (n := dp) (by omega)
  have c3 := nI_clamp (n := len) (by omega)
  refine va_copyi hE.1 hE.2.1 (by rw [hE.2.2.1]; exact hl.1.symm) hE.2.2.2.2.2.1 (hE.2.2.2.2.2.2.1 _ hw) (hE.2.2.2.2.2.2.1 _ hw1) (hE.2.2.2.2.2.2.1 _ hw2) (hE.2.2.2.2.2.2.1 _ hw3) hE.2.2.2.2.2.2.2.1.1 hH wl_D hS k0 k 0 0 (wl_at hk0 hG0) (wl_at hk hG) rfl rfl rfl (nI_pos (by omega)) (nI_pos (by omega)) (nI_pos (by omega)) (by omega) (by omega) (fun _ _ => rfl) (by omega) ?_ hd (fun H1 locs1 h1 h2 h3 => ?_)
  · have : nativeFrameWords "java/lang/System" "arraycopy" 5 ≤ 30 := by decide +kernel
    omega
  · rw [c1, c2, c3] at h1
    exact (K a b p e R s m args below meth c hE hn H1 locs1 la (Hs.up hk h1) h3 hl Z hz)
end Heap
