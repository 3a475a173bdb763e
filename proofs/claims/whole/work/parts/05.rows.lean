/-! a row an instruction -/
section Rows
variable {Θ : Th} {d mc ms : Nat} {y : MethodName} {cc : ByteArray} {nL : Nat} {ret : Option FieldType} {cl sl n : Nat} {G : HP} {pc pc' : Nat} {ls : LV} {st : List Value} {Q : QT}
theorem E_iconst {k : Int} (hd : Dc cc pc (.iconst k) 1 pc') (K : E Θ d mc ms y cc nL ret cl sl n G pc' ls (.int (Int32.ofInt k) :: st) Q) : E Θ d mc ms y cc nL ret cl sl n G pc ls st Q := by
  obtain ⟨hd, rfl⟩ := hd
  intro a b p e R s m args below meth c hE hn H locs la hH hS hl Z hz
  exact lv_iconst hE.1 hE.2.1 hd rfl (K a b p e R s m args below meth c hE hn H locs la hH hS hl Z hz)
theorem E_bipush {k : Int} {v : Int32} (hd : Dc cc pc (.bipush k) 2 pc') (hv : (Int8.ofInt k).toInt32 = v) (K : E Θ d mc ms y cc nL ret cl sl n G pc' ls (.int v :: st) Q) : E Θ d mc ms y cc nL ret cl sl n G pc ls st Q := by
  obtain ⟨hd, rfl⟩ := hd
  intro a b p e R s m args below meth c hE hn H locs la hH hS hl Z hz
  exact lv_bipush hE.1 hE.2.1 hd hv (K a b p e R s m args below meth c hE hn H locs la hH hS hl Z hz)
theorem E_sipush {k : Int} {v : Int32} (hd : Dc cc pc (.sipush k) 3 pc') (hv : (Int16.ofInt k).toInt32 = v) (K : E Θ d mc ms y cc nL ret cl sl n G pc' ls (.int v :: st) Q) : E Θ d mc ms y cc nL ret cl sl n G pc ls st Q := by
  obtain ⟨hd, rfl⟩ := hd
  intro a b p e R s m args below meth c hE hn H locs la hH hS hl Z hz
  exact lv_sipush hE.1 hE.2.1 hd hv (K a b p e R s m args below meth c hE hn H locs la hH hS hl Z hz)
theorem E_ldc {i : Nat} {v : Int32} (hd : Dc cc pc (.ldc i) 2 pc') (hw : Cond.constant y.cls i v ∈ TG) (K : E Θ d mc ms y cc nL ret cl sl n G pc' ls (.int v :: st) Q) : E Θ d mc ms y cc nL ret cl sl n G pc ls st Q := by
  obtain ⟨hd, rfl⟩ := hd
  intro a b p e R s m args below meth c hE hn H locs la hH hS hl Z hz
  exact lv_ldc hE.1 hE.2.1 hE.2.2.2.2.2.1 (hE.2.2.2.2.2.2.1 _ hw) hd (K a b p e R s m args below meth c hE hn H locs la hH hS hl Z hz)
theorem E_ldcw {i : Nat} {v : Int32} (hd : Dc cc pc (.ldc_w i) 3 pc') (hw : Cond.constant y.cls i v ∈ TG) (K : E Θ d mc ms y cc nL ret cl sl n G pc' ls (.int v :: st) Q) : E Θ d mc ms y cc nL ret cl sl n G pc ls st Q := by
  obtain ⟨hd, rfl⟩ := hd
  intro a b p e R s m args below meth c hE hn H locs la hH hS hl Z hz
  exact lv_ldcw hE.1 hE.2.1 hE.2.2.2.2.2.1 (hE.2.2.2.2.2.2.1 _ hw) hd (K a b p e R s m args below meth c hE hn H locs la hH hS hl Z hz)
theorem E_iload_n {k : Fin 4} {x : Int32} (hd : Dc cc pc (.iload_n k) 1 pc') (hk : lk ls k.val = some (.int x)) (K : E Θ d mc ms y cc nL ret cl sl n G pc' ls (.int x :: st) Q) : E Θ d mc ms y cc nL ret cl sl n G pc ls st Q := by
  obtain ⟨hd, rfl⟩ := hd
  intro a b p e R s m args below meth c hE hn H locs la hH hS hl Z hz
  exact lv_iload_n hE.1 hE.2.1 hd rfl (hl.2.2 _ _ hk).1 (K a b p e R s m args below meth c hE hn H locs la hH hS hl Z hz)
theorem E_iload {k : Nat} {x : Int32} (hd : Dc cc pc (.iload k) 2 pc') (hk : lk ls k = some (.int x)) (K : E Θ d mc ms y cc nL ret cl sl n G pc' ls (.int x :: st) Q) : E Θ d mc ms y cc nL ret cl sl n G pc ls st Q := by
  obtain ⟨hd, rfl⟩ := hd
  intro a b p e R s m args below meth c hE hn H locs la hH hS hl Z hz
  exact lv_iload hE.1 hE.2.1 hd (hl.2.2 _ _ hk).1 (K a b p e R s m args below meth c hE hn H locs la hH hS hl Z hz)
theorem E_aload_n {k : Fin 4} {x : Nat} (hd : Dc cc pc (.aload_n k) 1 pc') (hk : lk ls k.val = some (.ref x)) (K : E Θ d mc ms y cc nL ret cl sl n G pc' ls (.ref x :: st) Q) : E Θ d mc ms y cc nL ret cl sl n G pc ls st Q := by
  obtain ⟨hd, rfl⟩ := hd
  intro a b p e R s m args below meth c hE hn H locs la hH hS hl Z hz
  exact lv_aload_n hE.1 hE.2.1 hd rfl (hl.2.2 _ _ hk).1 (K a b p e R s m args below meth c hE hn H locs la hH hS hl Z hz)
theorem E_aload {k : Nat} {x : Nat} (hd : Dc cc pc (.aload k) 2 pc') (hk : lk ls k = some (.ref x)) (K : E Θ d mc ms y cc nL ret cl sl n G pc' ls (.ref x :: st) Q) : E Θ d mc ms y cc nL ret cl sl n G pc ls st Q := by
  obtain ⟨hd, rfl⟩ := hd
  intro a b p e R s m args below meth c hE hn H locs la hH hS hl Z hz
  exact lv_aload hE.1 hE.2.1 hd (hl.2.2 _ _ hk).1 (K a b p e R s m args below meth c hE hn H locs la hH hS hl Z hz)
theorem E_aload_nN {k : Fin 4} (hd : Dc cc pc (.aload_n k) 1 pc') (hk : lk ls k.val = some .null) (K : E Θ d mc ms y cc nL ret cl sl n G pc' ls (.null :: st) Q) : E Θ d mc ms y cc nL ret cl sl n G pc ls st Q := by
  obtain ⟨hd, rfl⟩ := hd
  intro a b p e R s m args below meth c hE hn H locs la hH hS hl Z hz
  exact lv_aload_nN hE.1 hE.2.1 hd rfl (hl.2.2 _ _ hk).1 (K a b p e R s m args below meth c hE hn H locs la hH hS hl Z hz)
theorem E_aloadN {k : Nat} (hd : Dc cc pc (.aload k) 2 pc') (hk : lk ls k = some .null) (K : E Θ d mc ms y cc nL ret cl sl n G pc' ls (.null :: st) Q) : E Θ d mc ms y cc nL ret cl sl n G pc ls st Q := by
  obtain ⟨hd, rfl⟩ := hd
  intro a b p e R s m args below meth c hE hn H locs la hH hS hl Z hz
  exact lv_aloadN hE.1 hE.2.1 hd (hl.2.2 _ _ hk).1 (K a b p e R s m args below meth c hE hn H locs la hH hS hl Z hz)
theorem E_istore_n {k : Fin 4} {x : Int32} (hd : Dc cc pc (.istore_n k) 1 pc') (hi : k.val < nL) (K : E Θ d mc ms y cc nL ret cl sl n G pc' ((k.val, .int x) :: ls) st Q) : E Θ d mc ms y cc nL ret cl sl n G pc ls (.int x :: st) Q := by
  obtain ⟨hd, rfl⟩ := hd
  intro a b p e R s m args below meth c hE hn H locs la hH hS hl Z hz
  exact lv_istore_n hE.1 hE.2.1 hd rfl hl.has hi rfl (fun la' h' => K a b p e R s m args below meth c hE hn H locs la' hH hS (hl.store rfl h') Z hz)
theorem E_istore {k : Nat} {x : Int32} (hd : Dc cc pc (.istore k) 2 pc') (hi : k < nL) (K : E Θ d mc ms y cc nL ret cl sl n G pc' ((k, .int x) :: ls) st Q) : E Θ d mc ms y cc nL ret cl sl n G pc ls (.int x :: st) Q := by
  obtain ⟨hd, rfl⟩ := hd
  intro a b p e R s m args below meth c hE hn H locs la hH hS hl Z hz
  exact lv_istore hE.1 hE.2.1 hd hl.has hi rfl (fun la' h' => K a b p e R s m args below meth c hE hn H locs la' hH hS (hl.store rfl h') Z hz)
theorem E_astore_n {k : Fin 4} {x : Nat} (hd : Dc cc pc (.astore_n k) 1 pc') (hi : k.val < nL) (K : E Θ d mc ms y cc nL ret cl sl n G pc' ((k.val, .ref x) :: ls) st Q) : E Θ d mc ms y cc nL ret cl sl n G pc ls (.ref x :: st) Q := by
  obtain ⟨hd, rfl⟩ := hd
  intro a b p e R s m args below meth c hE hn H locs la hH hS hl Z hz
  exact lv_astore_n hE.1 hE.2.1 hd rfl hl.has hi rfl (fun la' h' => K a b p e R s m args below meth c hE hn H locs la' hH hS (hl.store rfl h') Z hz)
theorem E_astore {k : Nat} {x : Nat} (hd : Dc cc pc (.astore k) 2 pc') (hi : k < nL) (K : E Θ d mc ms y cc nL ret cl sl n G pc' ((k, .ref x) :: ls) st Q) : E Θ d mc ms y cc nL ret cl sl n G pc ls (.ref x :: st) Q := by
  obtain ⟨hd, rfl⟩ := hd
  intro a b p e R s m args below meth c hE hn H locs la hH hS hl Z hz
  exact lv_astore hE.1 hE.2.1 hd hl.has hi rfl (fun la' h' => K a b p e R s m args below meth c hE hn H locs la' hH hS (hl.store rfl h') Z hz)
theorem E_astore_nN {k : Fin 4} (hd : Dc cc pc (.astore_n k) 1 pc') (hi : k.val < nL) (K : E Θ d mc ms y cc nL ret cl sl n G pc' ((k.val, Value.null) :: ls) st Q) : E Θ d mc ms y cc nL ret cl sl n G pc ls (Value.null :: st) Q := by
  obtain ⟨hd, rfl⟩ := hd
  intro a b p e R s m args below meth c hE hn H locs la hH hS hl Z hz
  exact lv_astore_nN hE.1 hE.2.1 hd rfl hl.has hi rfl (fun la' h' => K a b p e R s m args below meth c hE hn H locs la' hH hS (hl.store rfl h') Z hz)
theorem E_astoreN {k : Nat} (hd : Dc cc pc (.astore k) 2 pc') (hi : k < nL) (K : E Θ d mc ms y cc nL ret cl sl n G pc' ((k, Value.null) :: ls) st Q) : E Θ d mc ms y cc nL ret cl sl n G pc ls (Value.null :: st) Q := by
  obtain ⟨hd, rfl⟩ := hd
  intro a b p e R s m args below meth c hE hn H locs la hH hS hl Z hz
  exact lv_astoreN hE.1 hE.2.1 hd hl.has hi rfl (fun la' h' => K a b p e R s m args below meth c hE hn H locs la' hH hS (hl.store rfl h') Z hz)
theorem cn_at {nL : Nat} {ls : LV} {i : Nat} {v : Value} (hi : i < nL) (h : lk ls i = some v) : ∃ k : Nat, (cn nL ls)[k]? = some (i, v) := List.getElem?_of_mem (List.mem_filterMap.mpr ⟨i, List.mem_range.mpr hi, by rw [h]; rfl⟩)
theorem E_iinc {k : Nat} {c0 : Int} {x v : Int32} (hd : Dc cc pc (.iinc k c0) 3 pc') (hk : lk ls k = some (.int x)) (hv : Int32.ofInt c0 = v) (hi : k < nL) (K : E Θ d mc ms y cc nL ret cl sl n G pc' ((k, .int (x + v)) :: ls) st Q) : E Θ d mc ms y cc nL ret cl sl n G pc ls st Q := by
  obtain ⟨hd, rfl⟩ := hd
  intro a b p e R s m args below meth c hE hn H locs la hH hS hl Z hz
  obtain ⟨k0, hk0⟩ := cn_at hi hk
  subst hv
  exact lv_iinc hE.1 hE.2.1 hd hl.has hk0 rfl hi rfl (fun la' h' => K a b p e R s m args below meth c hE hn H locs la' hH hS (hl.store rfl h') Z hz)
theorem E_iadd {x z : Int32} (hd : Dc cc pc (.iadd) 1 pc') (K : E Θ d mc ms y cc nL ret cl sl n G pc' ls (.int (x + z) :: st) Q) : E Θ d mc ms y cc nL ret cl sl n G pc ls (.int z :: .int x :: st) Q := by
  obtain ⟨hd, rfl⟩ := hd
  intro a b p e R s m args below meth c hE hn H locs la hH hS hl Z hz
  exact lv_iadd hE.1 hE.2.1 hd (K a b p e R s m args below meth c hE hn H locs la hH hS hl Z hz)
theorem E_isub {x z : Int32} (hd : Dc cc pc (.isub) 1 pc') (K : E Θ d mc ms y cc nL ret cl sl n G pc' ls (.int (x - z) :: st) Q) : E Θ d mc ms y cc nL ret cl sl n G pc ls (.int z :: .int x :: st) Q := by
  obtain ⟨hd, rfl⟩ := hd
  intro a b p e R s m args below meth c hE hn H locs la hH hS hl Z hz
  exact lv_isub hE.1 hE.2.1 hd (K a b p e R s m args below meth c hE hn H locs la hH hS hl Z hz)
theorem E_imul {x z : Int32} (hd : Dc cc pc (.imul) 1 pc') (K : E Θ d mc ms y cc nL ret cl sl n G pc' ls (.int (x * z) :: st) Q) : E Θ d mc ms y cc nL ret cl sl n G pc ls (.int z :: .int x :: st) Q := by
  obtain ⟨hd, rfl⟩ := hd
  intro a b p e R s m args below meth c hE hn H locs la hH hS hl Z hz
  exact lv_imul hE.1 hE.2.1 hd (K a b p e R s m args below meth c hE hn H locs la hH hS hl Z hz)
theorem E_iand {x z : Int32} (hd : Dc cc pc (.iand) 1 pc') (K : E Θ d mc ms y cc nL ret cl sl n G pc' ls (.int (x &&& z) :: st) Q) : E Θ d mc ms y cc nL ret cl sl n G pc ls (.int z :: .int x :: st) Q := by
  obtain ⟨hd, rfl⟩ := hd
  intro a b p e R s m args below meth c hE hn H locs la hH hS hl Z hz
  exact lv_iand hE.1 hE.2.1 hd (K a b p e R s m args below meth c hE hn H locs la hH hS hl Z hz)
theorem E_ior {x z : Int32} (hd : Dc cc pc (.ior) 1 pc') (K : E Θ d mc ms y cc nL ret cl sl n G pc' ls (.int (x ||| z) :: st) Q) : E Θ d mc ms y cc nL ret cl sl n G pc ls (.int z :: .int x :: st) Q := by
  obtain ⟨hd, rfl⟩ := hd
  intro a b p e R s m args below meth c hE hn H locs la hH hS hl Z hz
  exact lv_ior hE.1 hE.2.1 hd (K a b p e R s m args below meth c hE hn H locs la hH hS hl Z hz)
theorem E_ixor {x z : Int32} (hd : Dc cc pc (.ixor) 1 pc') (K : E Θ d mc ms y cc nL ret cl sl n G pc' ls (.int (x ^^^ z) :: st) Q) : E Θ d mc ms y cc nL ret cl sl n G pc ls (.int z :: .int x :: st) Q := by
  obtain ⟨hd, rfl⟩ := hd
  intro a b p e R s m args below meth c hE hn H locs la hH hS hl Z hz
  exact lv_ixor hE.1 hE.2.1 hd (K a b p e R s m args below meth c hE hn H locs la hH hS hl Z hz)
theorem E_ishl {x z : Int32} (hd : Dc cc pc (.ishl) 1 pc') (K : E Θ d mc ms y cc nL ret cl sl n G pc' ls (.int (x <<< (z &&& 31)) :: st) Q) : E Θ d mc ms y cc nL ret cl sl n G pc ls (.int z :: .int x :: st) Q := by
  obtain ⟨hd, rfl⟩ := hd
  intro a b p e R s m args below meth c hE hn H locs la hH hS hl Z hz
  exact lv_ishl hE.1 hE.2.1 hd (K a b p e R s m args below meth c hE hn H locs la hH hS hl Z hz)
theorem E_ishr {x z : Int32} (hd : Dc cc pc (.ishr) 1 pc') (K : E Θ d mc ms y cc nL ret cl sl n G pc' ls (.int (x >>> (z &&& 31)) :: st) Q) : E Θ d mc ms y cc nL ret cl sl n G pc ls (.int z :: .int x :: st) Q := by
  obtain ⟨hd, rfl⟩ := hd
  intro a b p e R s m args below meth c hE hn H locs la hH hS hl Z hz
  exact lv_ishr hE.1 hE.2.1 hd (K a b p e R s m args below meth c hE hn H locs la hH hS hl Z hz)
theorem E_iushr {x z : Int32} (hd : Dc cc pc (.iushr) 1 pc') (K : E Θ d mc ms y cc nL ret cl sl n G pc' ls (.int ((x.toUInt32 >>> (z.toUInt32 &&& Int32.toUInt32 31)).toInt32) :: st) Q) : E Θ d mc ms y cc nL ret cl sl n G pc ls (.int z :: .int x :: st) Q := by
  obtain ⟨hd, rfl⟩ := hd
  intro a b p e R s m args below meth c hE hn H locs la hH hS hl Z hz
  exact lv_iushr hE.1 hE.2.1 hd rfl (K a b p e R s m args below meth c hE hn H locs la hH hS hl Z hz)
theorem E_idiv {x z : Int32} (hd : Dc cc pc (.idiv) 1 pc') (hz0 : ¬ z = 0) (K : E Θ d mc ms y cc nL ret cl sl n G pc' ls (.int (x / z) :: st) Q) : E Θ d mc ms y cc nL ret cl sl n G pc ls (.int z :: .int x :: st) Q := by
  obtain ⟨hd, rfl⟩ := hd
  intro a b p e R s m args below meth c hE hn H locs la hH hS hl Z hz
  exact lv_idiv hE.1 hE.2.1 hd hz0 (K a b p e R s m args below meth c hE hn H locs la hH hS hl Z hz)
theorem E_irem {x z : Int32} (hd : Dc cc pc (.irem) 1 pc') (hz0 : ¬ z = 0) (K : E Θ d mc ms y cc nL ret cl sl n G pc' ls (.int (x - x / z * z) :: st) Q) : E Θ d mc ms y cc nL ret cl sl n G pc ls (.int z :: .int x :: st) Q := by
  obtain ⟨hd, rfl⟩ := hd
  intro a b p e R s m args below meth c hE hn H locs la hH hS hl Z hz
  exact lv_irem hE.1 hE.2.1 hd hz0 (K a b p e R s m args below meth c hE hn H locs la hH hS hl Z hz)
theorem E_ineg {x : Int32} (hd : Dc cc pc (.ineg) 1 pc') (K : E Θ d mc ms y cc nL ret cl sl n G pc' ls (.int (-x) :: st) Q) : E Θ d mc ms y cc nL ret cl sl n G pc ls (.int x :: st) Q := by
  obtain ⟨hd, rfl⟩ := hd
  intro a b p e R s m args below meth c hE hn H locs la hH hS hl Z hz
  exact lv_ineg hE.1 hE.2.1 hd (K a b p e R s m args below meth c hE hn H locs la hH hS hl Z hz)
theorem E_i2s {x : Int32} (hd : Dc cc pc (.i2s) 1 pc') (K : E Θ d mc ms y cc nL ret cl sl n G pc' ls (.int x.toInt16.toInt32 :: st) Q) : E Θ d mc ms y cc nL ret cl sl n G pc ls (.int x :: st) Q := by
  obtain ⟨hd, rfl⟩ := hd
  intro a b p e R s m args below meth c hE hn H locs la hH hS hl Z hz
  exact lv_i2s hE.1 hE.2.1 hd rfl (K a b p e R s m args below meth c hE hn H locs la hH hS hl Z hz)
theorem E_i2c {x : Int32} (hd : Dc cc pc (.i2c) 1 pc') (K : E Θ d mc ms y cc nL ret cl sl n G pc' ls (.int (x.toUInt32 % 65536).toInt32 :: st) Q) : E Θ d mc ms y cc nL ret cl sl n G pc ls (.int x :: st) Q := by
  obtain ⟨hd, rfl⟩ := hd
  intro a b p e R s m args below meth c hE hn H locs la hH hS hl Z hz
  exact lv_i2c hE.1 hE.2.1 hd rfl (K a b p e R s m args below meth c hE hn H locs la hH hS hl Z hz)
theorem E_dup {v : Value} (hd : Dc cc pc (.dup) 1 pc') (hv : v.category = 1) (K : E Θ d mc ms y cc nL ret cl sl n G pc' ls (v :: v :: st) Q) : E Θ d mc ms y cc nL ret cl sl n G pc ls (v :: st) Q := by
  obtain ⟨hd, rfl⟩ := hd
  intro a b p e R s m args below meth c hE hn H locs la hH hS hl Z hz
  exact lv_dup hE.1 hE.2.1 hd hv (K a b p e R s m args below meth c hE hn H locs la hH hS hl Z hz)
theorem E_dup2 {v w : Value} (hd : Dc cc pc (.dup2) 1 pc') (hv : v.category = 1) (hw : w.category = 1) (K : E Θ d mc ms y cc nL ret cl sl n G pc' ls (v :: w :: v :: w :: st) Q) : E Θ d mc ms y cc nL ret cl sl n G pc ls (v :: w :: st) Q := by
  obtain ⟨hd, rfl⟩ := hd
  intro a b p e R s m args below meth c hE hn H locs la hH hS hl Z hz
  exact lv_dup2_11 hE.1 hE.2.1 hd hv hw (K a b p e R s m args below meth c hE hn H locs la hH hS hl Z hz)
theorem E_pop {v : Value} (hd : Dc cc pc (.pop) 1 pc') (hv : v.category = 1) (K : E Θ d mc ms y cc nL ret cl sl n G pc' ls st Q) : E Θ d mc ms y cc nL ret cl sl n G pc ls (v :: st) Q := by
  obtain ⟨hd, rfl⟩ := hd
  intro a b p e R s m args below meth c hE hn H locs la hH hS hl Z hz
  exact lv_pop hE.1 hE.2.1 hd hv (K a b p e R s m args below meth c hE hn H locs la hH hS hl Z hz)
theorem E_if_eq {x : Int32} {off : Int} {tgt : Nat} (hd : Db cc pc (.ifCond .eq off) off pc' tgt) (kt : x = 0 → E Θ d mc ms y cc nL ret cl sl n G tgt ls st Q) (kf : ¬ (x = 0) → E Θ d mc ms y cc nL ret cl sl n G pc' ls st Q) : E Θ d mc ms y cc nL ret cl sl n G pc ls (.int x :: st) Q := by
  obtain ⟨hd, rfl, ht⟩ := hd
  intro a b p e R s m args below meth c hE hn H locs la hH hS hl Z hz
  exact lv_if_eq hE.1 hE.2.1 hd ht (fun q => kt q a b p e R s m args below meth c hE hn H locs la hH hS hl Z hz) (fun q => kf q a b p e R s m args below meth c hE hn H locs la hH hS hl Z hz)
theorem E_icmp_eq {x z : Int32} {off : Int} {tgt : Nat} (hd : Db cc pc (.if_icmp .eq off) off pc' tgt) (kt : x = z → E Θ d mc ms y cc nL ret cl sl n G tgt ls st Q) (kf : ¬ (x = z) → E Θ d mc ms y cc nL ret cl sl n G pc' ls st Q) : E Θ d mc ms y cc nL ret cl sl n G pc ls (.int z :: .int x :: st) Q := by
  obtain ⟨hd, rfl, ht⟩ := hd
  intro a b p e R s m args below meth c hE hn H locs la hH hS hl Z hz
  exact lv_icmp_eq hE.1 hE.2.1 hd ht (fun q => kt q a b p e R s m args below meth c hE hn H locs la hH hS hl Z hz) (fun q => kf q a b p e R s m args below meth c hE hn H locs la hH hS hl Z hz)
theorem E_if_ne {x : Int32} {off : Int} {tgt : Nat} (hd : Db cc pc (.ifCond .ne off) off pc' tgt) (kt : ¬ x = 0 → E Θ d mc ms y cc nL ret cl sl n G tgt ls st Q) (kf : x = 0 → E Θ d mc ms y cc nL ret cl sl n G pc' ls st Q) : E Θ d mc ms y cc nL ret cl sl n G pc ls (.int x :: st) Q := by
  obtain ⟨hd, rfl, ht⟩ := hd
  intro a b p e R s m args below meth c hE hn H locs la hH hS hl Z hz
  exact lv_if_ne hE.1 hE.2.1 hd ht (fun q => kt q a b p e R s m args below meth c hE hn H locs la hH hS hl Z hz) (fun q => kf q a b p e R s m args below meth c hE hn H locs la hH hS hl Z hz)
theorem E_icmp_ne {x z : Int32} {off : Int} {tgt : Nat} (hd : Db cc pc (.if_icmp .ne off) off pc' tgt) (kt : ¬ x = z → E Θ d mc ms y cc nL ret cl sl n G tgt ls st Q) (kf : x = z → E Θ d mc ms y cc nL ret cl sl n G pc' ls st Q) : E Θ d mc ms y cc nL ret cl sl n G pc ls (.int z :: .int x :: st) Q := by
  obtain ⟨hd, rfl, ht⟩ := hd
  intro a b p e R s m args below meth c hE hn H locs la hH hS hl Z hz
  exact lv_icmp_ne hE.1 hE.2.1 hd ht (fun q => kt q a b p e R s m args below meth c hE hn H locs la hH hS hl Z hz) (fun q => kf q a b p e R s m args below meth c hE hn H locs la hH hS hl Z hz)
theorem E_if_lt {x : Int32} {off : Int} {tgt : Nat} (hd : Db cc pc (.ifCond .lt off) off pc' tgt) (kt : x < 0 → E Θ d mc ms y cc nL ret cl sl n G tgt ls st Q) (kf : ¬ (x < 0) → E Θ d mc ms y cc nL ret cl sl n G pc' ls st Q) : E Θ d mc ms y cc nL ret cl sl n G pc ls (.int x :: st) Q := by
  obtain ⟨hd, rfl, ht⟩ := hd
  intro a b p e R s m args below meth c hE hn H locs la hH hS hl Z hz
  exact lv_if_lt hE.1 hE.2.1 hd ht (fun q => kt q a b p e R s m args below meth c hE hn H locs la hH hS hl Z hz) (fun q => kf q a b p e R s m args below meth c hE hn H locs la hH hS hl Z hz)
theorem E_icmp_lt {x z : Int32} {off : Int} {tgt : Nat} (hd : Db cc pc (.if_icmp .lt off) off pc' tgt) (kt : x < z → E Θ d mc ms y cc nL ret cl sl n G tgt ls st Q) (kf : ¬ (x < z) → E Θ d mc ms y cc nL ret cl sl n G pc' ls st Q) : E Θ d mc ms y cc nL ret cl sl n G pc ls (.int z :: .int x :: st) Q := by
  obtain ⟨hd, rfl, ht⟩ := hd
  intro a b p e R s m args below meth c hE hn H locs la hH hS hl Z hz
  exact lv_icmp_lt hE.1 hE.2.1 hd ht (fun q => kt q a b p e R s m args below meth c hE hn H locs la hH hS hl Z hz) (fun q => kf q a b p e R s m args below meth c hE hn H locs la hH hS hl Z hz)
theorem E_if_ge {x : Int32} {off : Int} {tgt : Nat} (hd : Db cc pc (.ifCond .ge off) off pc' tgt) (kt : 0 ≤ x → E Θ d mc ms y cc nL ret cl sl n G tgt ls st Q) (kf : ¬ (0 ≤ x) → E Θ d mc ms y cc nL ret cl sl n G pc' ls st Q) : E Θ d mc ms y cc nL ret cl sl n G pc ls (.int x :: st) Q := by
  obtain ⟨hd, rfl, ht⟩ := hd
  intro a b p e R s m args below meth c hE hn H locs la hH hS hl Z hz
  exact lv_if_ge hE.1 hE.2.1 hd ht (fun q => kt q a b p e R s m args below meth c hE hn H locs la hH hS hl Z hz) (fun q => kf q a b p e R s m args below meth c hE hn H locs la hH hS hl Z hz)
theorem E_icmp_ge {x z : Int32} {off : Int} {tgt : Nat} (hd : Db cc pc (.if_icmp .ge off) off pc' tgt) (kt : z ≤ x → E Θ d mc ms y cc nL ret cl sl n G tgt ls st Q) (kf : ¬ (z ≤ x) → E Θ d mc ms y cc nL ret cl sl n G pc' ls st Q) : E Θ d mc ms y cc nL ret cl sl n G pc ls (.int z :: .int x :: st) Q := by
  obtain ⟨hd, rfl, ht⟩ := hd
  intro a b p e R s m args below meth c hE hn H locs la hH hS hl Z hz
  exact lv_icmp_ge hE.1 hE.2.1 hd ht (fun q => kt q a b p e R s m args below meth c hE hn H locs la hH hS hl Z hz) (fun q => kf q a b p e R s m args below meth c hE hn H locs la hH hS hl Z hz)
theorem E_if_gt {x : Int32} {off : Int} {tgt : Nat} (hd : Db cc pc (.ifCond .gt off) off pc' tgt) (kt : 0 < x → E Θ d mc ms y cc nL ret cl sl n G tgt ls st Q) (kf : ¬ (0 < x) → E Θ d mc ms y cc nL ret cl sl n G pc' ls st Q) : E Θ d mc ms y cc nL ret cl sl n G pc ls (.int x :: st) Q := by
  obtain ⟨hd, rfl, ht⟩ := hd
  intro a b p e R s m args below meth c hE hn H locs la hH hS hl Z hz
  exact lv_if_gt hE.1 hE.2.1 hd ht (fun q => kt q a b p e R s m args below meth c hE hn H locs la hH hS hl Z hz) (fun q => kf q a b p e R s m args below meth c hE hn H locs la hH hS hl Z hz)
theorem E_icmp_gt {x z : Int32} {off : Int} {tgt : Nat} (hd : Db cc pc (.if_icmp .gt off) off pc' tgt) (kt : z < x → E Θ d mc ms y cc nL ret cl sl n G tgt ls st Q) (kf : ¬ (z < x) → E Θ d mc ms y cc nL ret cl sl n G pc' ls st Q) : E Θ d mc ms y cc nL ret cl sl n G pc ls (.int z :: .int x :: st) Q := by
  obtain ⟨hd, rfl, ht⟩ := hd
  intro a b p e R s m args below meth c hE hn H locs la hH hS hl Z hz
  exact lv_icmp_gt hE.1 hE.2.1 hd ht (fun q => kt q a b p e R s m args below meth c hE hn H locs la hH hS hl Z hz) (fun q => kf q a b p e R s m args below meth c hE hn H locs la hH hS hl Z hz)
theorem E_if_le {x : Int32} {off : Int} {tgt : Nat} (hd : Db cc pc (.ifCond .le off) off pc' tgt) (kt : x ≤ 0 → E Θ d mc ms y cc nL ret cl sl n G tgt ls st Q) (kf : ¬ (x ≤ 0) → E Θ d mc ms y cc nL ret cl sl n G pc' ls st Q) : E Θ d mc ms y cc nL ret cl sl n G pc ls (.int x :: st) Q := by
  obtain ⟨hd, rfl, ht⟩ := hd
  intro a b p e R s m args below meth c hE hn H locs la hH hS hl Z hz
  exact lv_if_le hE.1 hE.2.1 hd ht (fun q => kt q a b p e R s m args below meth c hE hn H locs la hH hS hl Z hz) (fun q => kf q a b p e R s m args below meth c hE hn H locs la hH hS hl Z hz)
theorem E_icmp_le {x z : Int32} {off : Int} {tgt : Nat} (hd : Db cc pc (.if_icmp .le off) off pc' tgt) (kt : x ≤ z → E Θ d mc ms y cc nL ret cl sl n G tgt ls st Q) (kf : ¬ (x ≤ z) → E Θ d mc ms y cc nL ret cl sl n G pc' ls st Q) : E Θ d mc ms y cc nL ret cl sl n G pc ls (.int z :: .int x :: st) Q := by
  obtain ⟨hd, rfl, ht⟩ := hd
  intro a b p e R s m args below meth c hE hn H locs la hH hS hl Z hz
  exact lv_icmp_le hE.1 hE.2.1 hd ht (fun q => kt q a b p e R s m args below meth c hE hn H locs la hH hS hl Z hz) (fun q => kf q a b p e R s m args below meth c hE hn H locs la hH hS hl Z hz)
theorem E_goto {off : Int} {tgt : Nat} (hd : Db cc pc (.goto off) off pc' tgt) (K : E Θ d mc ms y cc nL ret cl sl n G tgt ls st Q) : E Θ d mc ms y cc nL ret cl sl n G pc ls st Q := by
  obtain ⟨hd, rfl, ht⟩ := hd
  intro a b p e R s m args below meth c hE hn H locs la hH hS hl Z hz
  exact lv_goto hE.1 hE.2.1 hd ht (K a b p e R s m args below meth c hE hn H locs la hH hS hl Z hz)
theorem E_nonnull {x : Nat} {off : Int} {tgt : Nat} (hd : Db cc pc (.ifnonnull off) off pc' tgt) (K : E Θ d mc ms y cc nL ret cl sl n G tgt ls st Q) : E Θ d mc ms y cc nL ret cl sl n G pc ls (.ref x :: st) Q := by
  obtain ⟨hd, rfl, ht⟩ := hd
  intro a b p e R s m args below meth c hE hn H locs la hH hS hl Z hz
  exact lv_ifnonnull hE.1 hE.2.1 hd ht (K a b p e R s m args below meth c hE hn H locs la hH hS hl Z hz)
theorem E_nonnullN {off : Int} {tgt : Nat} (hd : Db cc pc (.ifnonnull off) off pc' tgt) (K : E Θ d mc ms y cc nL ret cl sl n G pc' ls st Q) : E Θ d mc ms y cc nL ret cl sl n G pc ls (.null :: st) Q := by
  obtain ⟨hd, rfl, ht⟩ := hd
  intro a b p e R s m args below meth c hE hn H locs la hH hS hl Z hz
  exact lv_ifnonnullN hE.1 hE.2.1 hd (K a b p e R s m args below meth c hE hn H locs la hH hS hl Z hz)
theorem E_tswI {dflt lo hi off : Int} {offs : Array Int} {len tgt : Nat} {x : Int32} (hd : decode cc pc = .ok (.tableswitch dflt lo hi offs, len)) (k : Nat) (hx : x.toInt = lo + k) (hh : lo + k ≤ hi) (ho : offs[k]? = some off) (ht : (pc : Int) + off = (tgt : Int)) (K : E Θ d mc ms y cc nL ret cl sl n G tgt ls st Q) : E Θ d mc ms y cc nL ret cl sl n G pc ls (.int x :: st) Q := by
  intro a b p e R s m args below meth c hE hn H locs la hH hS hl Z hz
  exact lv_tableIn hE.1 hE.2.1 hd (by omega) (by omega) (by rw [show (x.toInt - lo).toNat = k by omega]; exact ho) ht (K a b p e R s m args below meth c hE hn H locs la hH hS hl Z hz)
theorem E_tswO {dflt lo hi : Int} {offs : Array Int} {len tgt : Nat} {x : Int32} (hd : decode cc pc = .ok (.tableswitch dflt lo hi offs, len)) (h : x.toInt < lo ∨ hi < x.toInt) (ht : (pc : Int) + dflt = (tgt : Int)) (K : E Θ d mc ms y cc nL ret cl sl n G tgt ls st Q) : E Θ d mc ms y cc nL ret cl sl n G pc ls (.int x :: st) Q := by
  intro a b p e R s m args below meth c hE hn H locs la hH hS hl Z hz
  exact lv_tableOut hE.1 hE.2.1 hd h ht (K a b p e R s m args below meth c hE hn H locs la hH hS hl Z hz)
theorem E_lsw {dflt off : Int} {ps : Array (Int × Int)} {len tgt : Nat} {x : Int32} (hd : decode cc pc = .ok (.lookupswitch dflt ps, len)) (hp : (ps.toList.zip (ps.toList.drop 1)).all (fun (a, next) => a.1 < next.1) = true) (ho : Op.lookupswitch.offset ps.toList dflt x.toInt = off) (ht : (pc : Int) + off = (tgt : Int)) (K : E Θ d mc ms y cc nL ret cl sl n G tgt ls st Q) : E Θ d mc ms y cc nL ret cl sl n G pc ls (.int x :: st) Q := by
  intro a b p e R s m args below meth c hE hn H locs la hH hS hl Z hz
  exact lv_lookup hE.1 hE.2.1 hd hp ho ht (K a b p e R s m args below meth c hE hn H locs la hH hS hl Z hz)
theorem E_iret {x : Int32} {f : Int32 → HP → Prop} (hd : Dc cc pc .ireturn 1 pc') (hc : cl = mc) (hr : nr ret x) (hq : f x G) : E Θ d mc ms y cc nL ret cl sl n G pc ls [.int x] (Qi f) := by
  obtain ⟨hd, rfl⟩ := hd
  intro a b p e R s m args below meth c hE hn H locs la hH hS hl Z hz
  subst hc
  exact W.widen a b (hz (some x) n G H locs pc la hq hn hH hS ⟨hd, hr⟩)
theorem E_vret {f : HP → Prop} (hd : Dc cc pc .return_ 1 pc') (hc : cl = mc) (hr : ret = none) (hq : f G) : E Θ d mc ms y cc nL ret cl sl n G pc ls [] (Qv f) := by
  obtain ⟨hd, rfl⟩ := hd
  intro a b p e R s m args below meth c hE hn H locs la hH hS hl Z hz
  subst hc
  exact W.widen a b (hz none n G H locs pc la hq hn hH hS ⟨hd, hr⟩)
theorem E_top {x : Int32} (K : ∀ z, z = x → E Θ d mc ms y cc nL ret cl sl n G pc ls (.int z :: st) Q) : E Θ d mc ms y cc nL ret cl sl n G pc ls (.int x :: st) Q := K x rfl
theorem E_eq {x z : Int32} (h : x = z) (K : E Θ d mc ms y cc nL ret cl sl n G pc ls (.int z :: st) Q) : E Θ d mc ms y cc nL ret cl sl n G pc ls (.int x :: st) Q := h ▸ K
end Rows
