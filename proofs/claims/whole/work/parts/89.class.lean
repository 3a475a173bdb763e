/-! the class's constructor -/
section Xi
variable {Θ : Th} {d : Nat}
theorem O_put {mc ms cl sl n p p2 j i i1 i2 i5 i7 i8 pc pc' : Nat} {t : FieldType} {v : Value} {ls : LV} {st : List Value} {Q : QT} (hF : FP RX11 i 11 j t) (hd : Dc cX11_init pc (.putfield i) 3 pc') (hn : 0 < n) (hnr : narrow t v = v) (hft : fits t v = true) (hl0 : j < (o11 Θ p).length) (hset : (o11 Θ p).set j v = o11 Θ p2) (K : E Θ d mc ms yX11_init cX11_init 2 none cl sl n (hST Θ p2 i1 i2 i5 i7 i8) pc' ls st Q) : E Θ d mc ms yX11_init cX11_init 2 none cl sl n (hST Θ p i1 i2 i5 i7 i8) pc ls (v :: .ref (tb Θ + 0) :: st) Q := by
  refine E_putF (y := yX11_init) hF hd rfl hn rfl hnr hft hl0 ?_
  rw [hset, st_up0]
  exact K

theorem l_X11_c {Q : QT} (K : E Θ (d + 4) 158 3640 yX11_init cX11_init 2 none 158 3640 159 (hST Θ 15 6 15 4 5 5) 339 [(0, .ref (tb Θ + 0))] [] Q) : ∀ k i, i + k = 5 → E Θ (d + 4) 158 3640 yX11_init cX11_init 2 none (138 + 4 * i) (3455 + 37 * i) (139 + 4 * i) (hST Θ 15 6 15 4 i i) 296 [(1, .int (nI i)), (0, .ref (tb Θ + 0))] [] Q := by
  intro k
  induction k with
  | zero =>
    intro i hi
    have e : i = 5 := by omega
    subst e
    refine E_iload_n dX11_init_296 rfl ?_
    refine E_ic (v := 5) dX11_init_297 (by decide) ?_
    refine E_icmp_ge dX11_init_298 (fun _ => ?_) (fun c => absurd (by decide) c)
    exact E.loc (ls' := [(0, .ref (tb Θ + 0))]) ⟨rfl, trivial⟩ (E.num (by omega) (by omega) (by omega) K)
  | succ k ih =>
    intro i hi
    have h9 : i < 5 := by omega
    refine E_iload_n dX11_init_296 rfl ?_
    refine E_ic (v := 5) dX11_init_297 (by decide) ?_
    refine E_icmp_ge dX11_init_298 (fun c => absurd ((nI_leI (a := 5) (by omega) (by omega)).mp c) (by omega)) (fun _ => ?_)
    obtain ⟨⟨p1, p2⟩, p3, p4⟩ := z_L (Θ := Θ) (p := 15) (i1 := 6) (i2 := 15) (i5 := 4) (i7 := i) (i8 := i) h9
    refine E_aload_n dX11_init_301 rfl ?_
    refine E_get (k := 0) (v := .ref (tb Θ + 7)) fX11_40 dX11_init_302 (by omega) rfl rfl ?_
    refine E_iload_n dX11_init_305 rfl ?_
    refine I_new (cl2 := 139 + 4 * i) (sl2 := 3459 + 37 * i) (n2 := 139 + 4 * i + 1) K_4 lX11_38 dX11_init_306 (fun j hj => lt4 (P := fun j => defaultValue (tyX4 j) = vp_V [.null, .int 0, .int 0, .null] j) rfl rfl rfl rfl hj) (by omega) (by omega) (by omega) (by omega) (by omega) ?_
    refine E_dup dX11_init_309 rfl ?_
    refine E_aload_n dX11_init_310 rfl ?_
    refine E_get (k := 0) (v := .ref (tb Θ + 1)) fX11_11 dX11_init_311 (by omega) ((up_ne (by omega)).trans rfl) rfl ?_
    refine E_ic (v := 0) dX11_init_314 (by decide) ?_
    refine E_aald (k := 1) (j := 0) (q := tb Θ + (14 + 0)) dX11_init_315 (by omega) ((up_ne (by omega)).trans rfl) rfl rfl (by decide) (by decide) rfl ?_
    refine I_call1 (cl2 := 140 + 4 * i) (sl2 := 3465 + 37 * i) (n2 := 141 + 4 * i) iX11_97 dX11_init_316 (Nat.le_of_ble_eq_true rfl) (by omega) (by omega) (by omega) (by omega) (by omega) (s_X4_init (k := 139 + 4 * i) (F := hST Θ 15 6 15 4 i i) (fun q hq => up_ne (by omega)) up_at p1 p2 ?_)
    refine E_aast (k := 7) (kv := 139 + 4 * i) (j := i) dX11_init_319 (by omega) rfl rfl rfl h9 (by decide) (by omega) p1 rfl (Or.inl rfl) ?_
    rw [upto_up, st_up7]
    obtain ⟨-, p3, p4⟩ := z_L (Θ := Θ) (p := 15) (i1 := 6) (i2 := 15) (i5 := 4) (i7 := i + 1) (i8 := i) h9
    refine E_aload_n dX11_init_320 rfl ?_
    refine E_get (k := 0) (v := .ref (tb Θ + 8)) fX11_44 dX11_init_321 (by omega) rfl rfl ?_
    refine E_iload_n dX11_init_324 rfl ?_
    refine I_new (cl2 := 141 + 4 * i) (sl2 := 3468 + 37 * i) (n2 := 141 + 4 * i + 1) K_5 lX11_28 dX11_init_325 (fun j hj => lt4 (P := fun j => j < 3 → defaultValue (tyX5 j) = vp_V [.int 0, .int 0, .null] j) (fun _ => rfl) (fun _ => rfl) (fun _ => rfl) (fun h => absurd h (by omega)) (Nat.lt_succ_of_lt hj) hj) (by omega) (by omega) (by omega) (by omega) (by omega) ?_
    refine E_dup dX11_init_328 rfl ?_
    refine I_call0 (cl2 := 142 + 4 * i) (sl2 := 3492 + 37 * i) (n2 := 143 + 4 * i) iX11_96 dX11_init_329 (Nat.le_of_ble_eq_true rfl) (by omega) (by omega) (by omega) (by omega) (by omega) (s_X5_init (k := 141 + 4 * i) (F := hST Θ 15 6 15 4 (i + 1) i) (fun q hq => up_ne (by omega)) up_at p3 p4 ?_)
    refine E_aast (k := 8) (kv := 141 + 4 * i) (j := i) dX11_init_332 (by omega) rfl rfl rfl h9 (by decide) (by omega) p3 rfl (Or.inl rfl) ?_
    rw [upto_up, st_up8]
    refine E_iinc (v := 1) dX11_init_333 rfl (by decide) (by decide) ?_
    refine E_goto dX11_init_336 ?_
    rw [nI_1]
    exact E.loc (ls' := [(1, .int (nI (i + 1))), (0, .ref (tb Θ + 0))]) ⟨rfl, rfl, trivial⟩ (E.num (by omega) (by omega) (by omega) (ih (i + 1) (by omega)))
theorem l_X11_b {Q : QT} (K : E Θ (d + 4) 158 3640 yX11_init cX11_init 2 none 138 3455 139 (hST Θ 15 6 15 4 0 0) 294 [(0, .ref (tb Θ + 0))] [] Q) : ∀ k i, i + k = 4 → E Θ (d + 4) 158 3640 yX11_init cX11_init 2 none (130 + 2 * i) (3347 + 27 * i) (131 + 2 * i) (hST Θ 15 6 15 i 0 0) 266 [(1, .int (nI i)), (0, .ref (tb Θ + 0))] [] Q := by
  intro k
  induction k with
  | zero =>
    intro i hi
    have e : i = 4 := by omega
    subst e
    refine E_iload_n dX11_init_266 rfl ?_
    refine E_aload_n dX11_init_267 rfl ?_
    refine E_get (k := 0) (v := .ref (tb Θ + 5)) fX11_30 dX11_init_268 (by omega) rfl rfl ?_
    refine E_alenR (k := 5) dX11_init_271 (by omega) rfl rfl ?_
    refine E_icmp_ge dX11_init_272 (fun _ => ?_) (fun c => absurd (by decide) c)
    exact E.loc (ls' := [(0, .ref (tb Θ + 0))]) ⟨rfl, trivial⟩ (E.num (by omega) (by omega) (by omega) K)
  | succ k ih =>
    intro i hi
    have h9 : i < 4 := by omega
    refine E_iload_n dX11_init_266 rfl ?_
    refine E_aload_n dX11_init_267 rfl ?_
    refine E_get (k := 0) (v := .ref (tb Θ + 5)) fX11_30 dX11_init_268 (by omega) rfl rfl ?_
    refine E_alenR (k := 5) dX11_init_271 (by omega) rfl rfl ?_
    refine E_icmp_ge dX11_init_272 (fun c => absurd ((nI_leI (a := 4) (by omega) (by omega)).mp c) (by omega)) (fun _ => ?_)
    obtain ⟨p1, p2⟩ := z_R (Θ := Θ) (p := 15) (i1 := 6) (i2 := 15) (i5 := i) (i7 := 0) (i8 := 0) h9
    refine E_aload_n dX11_init_275 rfl ?_
    refine E_get (k := 0) (v := .ref (tb Θ + 5)) fX11_30 dX11_init_276 (by omega) rfl rfl ?_
    refine E_iload_n dX11_init_279 rfl ?_
    refine I_new (cl2 := 131 + 2 * i) (sl2 := 3350 + 27 * i) (n2 := 131 + 2 * i + 1) K_5 lX11_28 dX11_init_280 (fun j hj => lt4 (P := fun j => j < 3 → defaultValue (tyX5 j) = vp_V [.int 0, .int 0, .null] j) (fun _ => rfl) (fun _ => rfl) (fun _ => rfl) (fun h => absurd h (by omega)) (Nat.lt_succ_of_lt hj) hj) (by omega) (by omega) (by omega) (by omega) (by omega) ?_
    refine E_dup dX11_init_283 rfl ?_
    refine I_call0 (cl2 := 132 + 2 * i) (sl2 := 3374 + 27 * i) (n2 := 133 + 2 * i) iX11_96 dX11_init_284 (Nat.le_of_ble_eq_true rfl) (by omega) (by omega) (by omega) (by omega) (by omega) (s_X5_init (k := 131 + 2 * i) (F := hST Θ 15 6 15 i 0 0) (fun q hq => up_ne (by omega)) up_at p1 p2 ?_)
    refine E_aast (k := 5) (kv := 131 + 2 * i) (j := i) dX11_init_287 (by omega) rfl rfl rfl h9 (by decide) (by omega) p1 rfl (Or.inl rfl) ?_
    rw [upto_up, st_up5]
    refine E_iinc (v := 1) dX11_init_288 rfl (by decide) (by decide) ?_
    refine E_goto dX11_init_291 ?_
    rw [nI_1]
    exact E.loc (ls' := [(1, .int (nI (i + 1))), (0, .ref (tb Θ + 0))]) ⟨rfl, rfl, trivial⟩ (E.num (by omega) (by omega) (by omega) (ih (i + 1) (by omega)))
theorem l_X11_a {Q : QT} (K : E Θ (d + 4) 158 3640 yX11_init cX11_init 2 none 130 3347 131 (hST Θ 15 6 15 0 0 0) 264 [(0, .ref (tb Θ + 0))] [] Q) : ∀ k i, i + k = 15 → E Θ (d + 4) 158 3640 yX11_init cX11_init 2 none (85 + 3 * i) (1097 + 150 * i) (86 + 3 * i) (hST Θ 15 6 i 0 0 0) 235 [(1, .int (nI i)), (0, .ref (tb Θ + 0))] [] Q := by
  intro k
  induction k with
  | zero =>
    intro i hi
    have e : i = 15 := by omega
    subst e
    refine E_iload_n dX11_init_235 rfl ?_
    refine E_aload_n dX11_init_236 rfl ?_
    refine E_get (k := 0) (v := .ref (tb Θ + 2)) fX11_17 dX11_init_237 (by omega) rfl rfl ?_
    refine E_alenR (k := 2) dX11_init_240 (by omega) rfl rfl ?_
    refine E_icmp_ge dX11_init_241 (fun _ => ?_) (fun c => absurd (by decide) c)
    exact E.loc (ls' := [(0, .ref (tb Θ + 0))]) ⟨rfl, trivial⟩ (E.num (by omega) (by omega) (by omega) K)
  | succ k ih =>
    intro i hi
    have h9 : i < 15 := by omega
    refine E_iload_n dX11_init_235 rfl ?_
    refine E_aload_n dX11_init_236 rfl ?_
    refine E_get (k := 0) (v := .ref (tb Θ + 2)) fX11_17 dX11_init_237 (by omega) rfl rfl ?_
    refine E_alenR (k := 2) dX11_init_240 (by omega) rfl rfl ?_
    refine E_icmp_ge dX11_init_241 (fun c => absurd ((nI_leI (a := 15) (by omega) (by omega)).mp c) (by omega)) (fun _ => ?_)
    obtain ⟨p1, p2, p3⟩ := z_T (Θ := Θ) (p := 15) (i1 := 6) (i2 := i) (i5 := 0) (i7 := 0) (i8 := 0) h9
    refine E_aload_n dX11_init_244 rfl ?_
    refine E_get (k := 0) (v := .ref (tb Θ + 2)) fX11_17 dX11_init_245 (by omega) rfl rfl ?_
    refine E_iload_n dX11_init_248 rfl ?_
    refine I_new (cl2 := 86 + 3 * i) (sl2 := 1103 + 150 * i) (n2 := 86 + 3 * i + 1) K_8 lX11_15 dX11_init_249 (fun j hj => (lt6 (P := fun j => defaultValue (tyX8 j) = vp_V [.int 0, .int 0, .int 0, .int 0, .null, .null] j) rfl rfl rfl rfl rfl rfl) hj) (by omega) (by omega) (by omega) (by omega) (by omega) ?_
    refine E_dup dX11_init_252 rfl ?_
    refine E_iload_n dX11_init_253 rfl ?_
    refine I_call1 (cl2 := 88 + 3 * i) (sl2 := 1247 + 150 * i) (n2 := 89 + 3 * i) iX11_93 dX11_init_254 (Nat.le_of_ble_eq_true rfl) (by omega) (by omega) (by omega) (by omega) (by omega) (s_X8_init (k := 86 + 3 * i) (F := hST Θ 15 6 i 0 0 0) (fun q hq => up_ne (by omega)) up_at p1 p2 p3 ?_)
    refine E_aast (k := 2) (kv := 86 + 3 * i) (j := i) dX11_init_257 (by omega) rfl rfl rfl h9 (by decide) (by omega) p1 rfl (Or.inl rfl) ?_
    rw [upto_up, st_up2]
    refine E_iinc (v := 1) dX11_init_258 rfl (by decide) (by decide) ?_
    refine E_goto dX11_init_261 ?_
    rw [nI_1]
    exact E.loc (ls' := [(1, .int (nI (i + 1))), (0, .ref (tb Θ + 0))]) ⟨rfl, rfl, trivial⟩ (E.num (by omega) (by omega) (by omega) (ih (i + 1) (by omega)))
set_option maxHeartbeats 4000000 in
theorem s_X11_init {G : HP} {Q : HP → Prop} (hG : G 0 = .inr (11, o11 Θ 0)) (hq : Q (lay Θ S0)) : C Θ (d + 4) 158 3640 yX11_init cX11_init 2 none [.ref (tb Θ + 0)] 1 G (Qv Q) := by
  refine C_of rfl rfl (Nat.le_of_ble_eq_true rfl) ?_
  refine E.heap (G' := hST Θ 0 0 0 0 0 0) (fun q hq2 => by rw [show q = 0 by omega]; exact hG) ?_
  refine E_aload_n dX11_init_0 rfl ?_
  refine E_objInit oX11_1 w_oi w_oc dX11_init_1 (Nat.le_of_ble_eq_true rfl) ?_
  refine E_aload_n dX11_init_4 rfl ?_
  refine E_bipush (v := 6) dX11_init_5 (by decide) ?_
  refine I_newq (cl2 := 1) (sl2 := 6) (n2 := 2) (len := 6) (t := 3) lX11_9 (by decide) rfl dX11_init_7 rfl (by decide) (congrArg (fun f => rA Θ 3 6 f) upto_0) (Nat.le_of_ble_eq_true rfl) (Nat.le_of_ble_eq_true rfl) rfl rfl rfl ?_
  refine O_put (p := 0) (p2 := 1) pX11_11 dX11_init_10 (by omega) rfl rfl (Nat.le_of_ble_eq_true rfl) rfl ?_
  refine E_aload_n dX11_init_13 rfl ?_
  refine E_bipush (v := 15) dX11_init_14 (by decide) ?_
  refine I_newq (cl2 := 2) (sl2 := 21) (n2 := 3) (len := 15) (t := 6) lX11_15 (by decide) rfl dX11_init_16 rfl (by decide) (congrArg (fun f => rA Θ 6 15 f) upto_0) (Nat.le_of_ble_eq_true rfl) (Nat.le_of_ble_eq_true rfl) rfl rfl rfl ?_
  refine O_put (p := 1) (p2 := 2) pX11_17 dX11_init_19 (by omega) rfl rfl (Nat.le_of_ble_eq_true rfl) rfl ?_
  refine E_aload_n dX11_init_22 rfl ?_
  refine I_new (cl2 := 3) (sl2 := 27) (n2 := 4) (fs := [.null, .int 0, .int 0, .int 0, .int 0, .null]) K_7 lX11_21 dX11_init_23 (fun j hj => (lt6 (P := fun j => defaultValue (tyX7 j) = vp_V [.null, .int 0, .int 0, .int 0, .int 0, .null] j) rfl rfl rfl rfl rfl rfl) hj) (Nat.le_of_ble_eq_true rfl) (Nat.le_of_ble_eq_true rfl) rfl rfl rfl ?_
  refine E_dup dX11_init_26 rfl ?_
  refine I_call0 (cl2 := 4) (sl2 := 123) (n2 := 5) iX11_23 dX11_init_27 (Nat.le_of_ble_eq_true rfl) (Nat.le_of_ble_eq_true rfl) (Nat.le_of_ble_eq_true rfl) rfl rfl rfl (s_X7_init (k := 3) (F := hST Θ 2 0 0 0 0 0) (fun q hq2 => up_ne (by omega)) up_at z_3 rfl ?_)
  refine O_put (p := 2) (p2 := 3) pX11_24 dX11_init_30 (by omega) rfl rfl (Nat.le_of_ble_eq_true rfl) rfl ?_
  refine E_aload_n dX11_init_33 rfl ?_
  refine E_ic (v := 4) dX11_init_34 (by decide) ?_
  refine I_newq (cl2 := 5) (sl2 := 127) (n2 := 6) (len := 4) (t := 5) lX11_28 (by decide) rfl dX11_init_35 rfl (by decide) (congrArg (fun f => rA Θ 5 4 f) upto_0) (Nat.le_of_ble_eq_true rfl) (Nat.le_of_ble_eq_true rfl) rfl rfl rfl ?_
  refine O_put (p := 3) (p2 := 4) pX11_30 dX11_init_38 (by omega) rfl rfl (Nat.le_of_ble_eq_true rfl) rfl ?_
  refine E_aload_n dX11_init_41 rfl ?_
  refine E_ic (v := 5) dX11_init_42 (by decide) ?_
  refine I_newi (cl2 := 6) (sl2 := 132) (n2 := 7) (len := 5) dX11_init_43 rfl (by decide) rfl (Nat.le_of_ble_eq_true rfl) (Nat.le_of_ble_eq_true rfl) rfl rfl rfl ?_
  refine O_put (p := 4) (p2 := 5) pX11_34 dX11_init_45 (by omega) rfl rfl (Nat.le_of_ble_eq_true rfl) rfl ?_
  refine E_aload_n dX11_init_48 rfl ?_
  refine E_ic (v := 5) dX11_init_49 (by decide) ?_
  refine I_newq (cl2 := 7) (sl2 := 137) (n2 := 8) (len := 5) (t := 4) lX11_38 (by decide) rfl dX11_init_50 rfl (by decide) (congrArg (fun f => rA Θ 4 5 f) upto_0) (Nat.le_of_ble_eq_true rfl) (Nat.le_of_ble_eq_true rfl) rfl rfl rfl ?_
  refine O_put (p := 5) (p2 := 6) pX11_40 dX11_init_53 (by omega) rfl rfl (Nat.le_of_ble_eq_true rfl) rfl ?_
  refine E_aload_n dX11_init_56 rfl ?_
  refine E_ic (v := 5) dX11_init_57 (by decide) ?_
  refine I_newq (cl2 := 8) (sl2 := 142) (n2 := 9) (len := 5) (t := 5) lX11_28 (by decide) rfl dX11_init_58 rfl (by decide) (congrArg (fun f => rA Θ 5 5 f) upto_0) (Nat.le_of_ble_eq_true rfl) (Nat.le_of_ble_eq_true rfl) rfl rfl rfl ?_
  refine O_put (p := 6) (p2 := 7) pX11_44 dX11_init_61 (by omega) rfl rfl (Nat.le_of_ble_eq_true rfl) rfl ?_
  refine E_aload_n dX11_init_64 rfl ?_
  refine E_ic (v := 5) dX11_init_65 (by decide) ?_
  refine I_newi (cl2 := 9) (sl2 := 147) (n2 := 10) (len := 5) dX11_init_66 rfl (by decide) rfl (Nat.le_of_ble_eq_true rfl) (Nat.le_of_ble_eq_true rfl) rfl rfl rfl ?_
  refine O_put (p := 7) (p2 := 8) pX11_47 dX11_init_68 (by omega) rfl rfl (Nat.le_of_ble_eq_true rfl) rfl ?_
  refine E_aload_n dX11_init_71 rfl ?_
  refine E_bipush (v := 60) dX11_init_72 (by decide) ?_
  refine I_newi (cl2 := 10) (sl2 := 207) (n2 := 11) (len := 60) dX11_init_74 rfl (by decide) rfl (Nat.le_of_ble_eq_true rfl) (Nat.le_of_ble_eq_true rfl) rfl rfl rfl ?_
  refine O_put (p := 8) (p2 := 9) pX11_50 dX11_init_76 (by omega) rfl rfl (Nat.le_of_ble_eq_true rfl) rfl ?_
  refine E_aload_n dX11_init_79 rfl ?_
  refine E_bipush (v := 9) dX11_init_80 (by decide) ?_
  refine I_newi (cl2 := 11) (sl2 := 216) (n2 := 12) (len := 9) dX11_init_82 rfl (by decide) rfl (Nat.le_of_ble_eq_true rfl) (Nat.le_of_ble_eq_true rfl) rfl rfl rfl ?_
  refine O_put (p := 9) (p2 := 10) pX11_53 dX11_init_84 (by omega) rfl rfl (Nat.le_of_ble_eq_true rfl) rfl ?_
  refine E_aload_n dX11_init_87 rfl ?_
  refine E_sipush (v := 512) dX11_init_88 (by decide) ?_
  refine I_newi (cl2 := 12) (sl2 := 728) (n2 := 13) (len := 512) dX11_init_91 rfl (by decide) rfl (Nat.le_of_ble_eq_true rfl) (Nat.le_of_ble_eq_true rfl) rfl rfl rfl ?_
  refine O_put (p := 10) (p2 := 11) pX11_56 dX11_init_93 (by omega) rfl rfl (Nat.le_of_ble_eq_true rfl) rfl ?_
  refine E_aload_n dX11_init_96 rfl ?_
  refine E_bipush (v := 9) dX11_init_97 (by decide) ?_
  refine I_newi (cl2 := 13) (sl2 := 737) (n2 := 14) (len := 9) dX11_init_99 rfl (by decide) rfl (Nat.le_of_ble_eq_true rfl) (Nat.le_of_ble_eq_true rfl) rfl rfl rfl ?_
  refine O_put (p := 11) (p2 := 12) pX11_59 dX11_init_101 (by omega) rfl rfl (Nat.le_of_ble_eq_true rfl) rfl ?_
  refine E_aload_n dX11_init_104 rfl ?_
  refine E_get (k := 0) (v := .ref (tb Θ + 1)) fX11_11 dX11_init_105 (by omega) rfl rfl ?_
  refine E_ic (v := 0) dX11_init_108 (by decide) ?_
  refine I_newF (cl2 := 14) (sl2 := 737) (n2 := 15) K_3 lX11_9 dX11_init_109 rfl (Nat.le_of_ble_eq_true rfl) (Nat.le_of_ble_eq_true rfl) rfl rfl rfl ?_
  refine E_dup dX11_init_112 rfl ?_
  refine I_call0 (cl2 := 14) (sl2 := 737) (n2 := 15) iX11_62 dX11_init_113 (Nat.le_of_ble_eq_true rfl) (Nat.le_of_ble_eq_true rfl) (Nat.le_of_ble_eq_true rfl) rfl rfl rfl (s_X3_init ?_)
  refine E_aast (k := 1) (kv := 14 + 0) (j := 0) (ci := 3) (fs := []) dX11_init_116 (by omega) rfl rfl rfl (by decide) (by decide) (by omega) rfl rfl (Or.inl rfl) ?_
  rw [upto_up, st_upn (i' := 1) rfl]
  refine E_aload_n dX11_init_117 rfl ?_
  refine E_get (k := 0) (v := .ref (tb Θ + 1)) fX11_11 dX11_init_118 (by omega) rfl rfl ?_
  refine E_ic (v := 1) dX11_init_121 (by decide) ?_
  refine I_newF (cl2 := 15) (sl2 := 737) (n2 := 16) K_2 lX11_63 dX11_init_122 rfl (Nat.le_of_ble_eq_true rfl) (Nat.le_of_ble_eq_true rfl) rfl rfl rfl ?_
  refine E_dup dX11_init_125 rfl ?_
  refine I_call0 (cl2 := 15) (sl2 := 737) (n2 := 16) iX11_65 dX11_init_126 (Nat.le_of_ble_eq_true rfl) (Nat.le_of_ble_eq_true rfl) (Nat.le_of_ble_eq_true rfl) rfl rfl rfl (s_X2_init ?_)
  refine E_aast (k := 1) (kv := 14 + 1) (j := 1) (ci := 2) (fs := []) dX11_init_129 (by omega) rfl rfl rfl (by decide) (by decide) (by omega) rfl rfl (Or.inr ca_2) ?_
  rw [upto_up, st_upn (i' := 2) rfl]
  refine E_aload_n dX11_init_130 rfl ?_
  refine E_get (k := 0) (v := .ref (tb Θ + 1)) fX11_11 dX11_init_131 (by omega) rfl rfl ?_
  refine E_ic (v := 2) dX11_init_134 (by decide) ?_
  refine I_newF (cl2 := 16) (sl2 := 737) (n2 := 17) K_1 lX11_66 dX11_init_135 rfl (Nat.le_of_ble_eq_true rfl) (Nat.le_of_ble_eq_true rfl) rfl rfl rfl ?_
  refine E_dup dX11_init_138 rfl ?_
  refine I_call0 (cl2 := 16) (sl2 := 737) (n2 := 17) iX11_68 dX11_init_139 (Nat.le_of_ble_eq_true rfl) (Nat.le_of_ble_eq_true rfl) (Nat.le_of_ble_eq_true rfl) rfl rfl rfl (s_X1_init ?_)
  refine E_aast (k := 1) (kv := 14 + 2) (j := 2) (ci := 1) (fs := []) dX11_init_142 (by omega) rfl rfl rfl (by decide) (by decide) (by omega) rfl rfl (Or.inr ca_1) ?_
  rw [upto_up, st_upn (i' := 3) rfl]
  refine E_aload_n dX11_init_143 rfl ?_
  refine E_get (k := 0) (v := .ref (tb Θ + 1)) fX11_11 dX11_init_144 (by omega) rfl rfl ?_
  refine E_ic (v := 3) dX11_init_147 (by decide) ?_
  refine I_newF (cl2 := 17) (sl2 := 737) (n2 := 18) K_9 lX11_69 dX11_init_148 rfl (Nat.le_of_ble_eq_true rfl) (Nat.le_of_ble_eq_true rfl) rfl rfl rfl ?_
  refine E_dup dX11_init_151 rfl ?_
  refine I_call0 (cl2 := 17) (sl2 := 737) (n2 := 18) iX11_71 dX11_init_152 (Nat.le_of_ble_eq_true rfl) (Nat.le_of_ble_eq_true rfl) (Nat.le_of_ble_eq_true rfl) rfl rfl rfl (s_X9_init ?_)
  refine E_aast (k := 1) (kv := 14 + 3) (j := 3) (ci := 9) (fs := []) dX11_init_155 (by omega) rfl rfl rfl (by decide) (by decide) (by omega) rfl rfl (Or.inr ca_9) ?_
  rw [upto_up, st_upn (i' := 4) rfl]
  refine E_aload_n dX11_init_156 rfl ?_
  refine E_get (k := 0) (v := .ref (tb Θ + 1)) fX11_11 dX11_init_157 (by omega) rfl rfl ?_
  refine E_ic (v := 4) dX11_init_160 (by decide) ?_
  refine I_newF (cl2 := 18) (sl2 := 737) (n2 := 19) K_6 lX11_72 dX11_init_161 rfl (Nat.le_of_ble_eq_true rfl) (Nat.le_of_ble_eq_true rfl) rfl rfl rfl ?_
  refine E_dup dX11_init_164 rfl ?_
  refine I_call0 (cl2 := 18) (sl2 := 737) (n2 := 19) iX11_74 dX11_init_165 (Nat.le_of_ble_eq_true rfl) (Nat.le_of_ble_eq_true rfl) (Nat.le_of_ble_eq_true rfl) rfl rfl rfl (s_X6_init ?_)
  refine E_aast (k := 1) (kv := 14 + 4) (j := 4) (ci := 6) (fs := []) dX11_init_168 (by omega) rfl rfl rfl (by decide) (by decide) (by omega) rfl rfl (Or.inr ca_6) ?_
  rw [upto_up, st_upn (i' := 5) rfl]
  refine E_aload_n dX11_init_169 rfl ?_
  refine E_get (k := 0) (v := .ref (tb Θ + 1)) fX11_11 dX11_init_170 (by omega) rfl rfl ?_
  refine E_ic (v := 5) dX11_init_173 (by decide) ?_
  refine I_newF (cl2 := 19) (sl2 := 737) (n2 := 20) K_0 lX11_75 dX11_init_174 rfl (Nat.le_of_ble_eq_true rfl) (Nat.le_of_ble_eq_true rfl) rfl rfl rfl ?_
  refine E_dup dX11_init_177 rfl ?_
  refine I_call0 (cl2 := 19) (sl2 := 737) (n2 := 20) iX11_77 dX11_init_178 (Nat.le_of_ble_eq_true rfl) (Nat.le_of_ble_eq_true rfl) (Nat.le_of_ble_eq_true rfl) rfl rfl rfl (s_X0_init ?_)
  refine E_aast (k := 1) (kv := 14 + 5) (j := 5) (ci := 0) (fs := []) dX11_init_181 (by omega) rfl rfl rfl (by decide) (by decide) (by omega) rfl rfl (Or.inr ca_0) ?_
  rw [upto_up, st_upn (i' := 6) rfl]
  refine E_aload_n dX11_init_182 rfl ?_
  refine I_new (cl2 := 20) (sl2 := 751) (n2 := 21) (fs := [.null, .int 0, .int 0, .int 0, .int 0, .int 0, .int 0, .int 0, .int 0, .null, .int 0, .int 0, .null, .int 0]) K_10 lX11_78 dX11_init_183 (fun j hj => by
    match j, hj with
    | 0, _ => rfl
    | 1, _ => rfl
    | 2, _ => rfl
    | 3, _ => rfl
    | 4, _ => rfl
    | 5, _ => rfl
    | 6, _ => rfl
    | 7, _ => rfl
    | 8, _ => rfl
    | 9, _ => rfl
    | 10, _ => rfl
    | 11, _ => rfl
    | 12, _ => rfl
    | 13, _ => rfl
    | q + 14, h => exact absurd h (by omega)) (Nat.le_of_ble_eq_true rfl) (Nat.le_of_ble_eq_true rfl) rfl rfl rfl ?_
  refine E_dup dX11_init_186 rfl ?_
  refine E_aload_n dX11_init_187 rfl ?_
  refine E_get (k := 0) (v := .ref (tb Θ + 1)) fX11_11 dX11_init_188 (by omega) rfl rfl ?_
  refine E_ic (v := 0) dX11_init_191 (by decide) ?_
  refine E_aald (k := 1) (j := 0) (q := tb Θ + (14 + 0)) dX11_init_192 (by omega) rfl rfl rfl (by decide) (by decide) rfl ?_
  refine I_call1 (cl2 := 41) (sl2 := 857) (n2 := 42) iX11_80 dX11_init_193 (Nat.le_of_ble_eq_true rfl) (Nat.le_of_ble_eq_true rfl) (Nat.le_of_ble_eq_true rfl) rfl rfl rfl (s_X10_init (w := 20) (F := hST Θ 12 6 0 0 0 0) (fun q hq2 => up_ne (by omega)) up_at z_W20.1 z_W20.2.1 z_W20.2.2.1 z_W20.2.2.2 z_P20 ?_)
  refine O_put (p := 12) (p2 := 13) pX11_83 dX11_init_196 (by omega) rfl rfl (Nat.le_of_ble_eq_true rfl) rfl ?_
  refine E_aload_n dX11_init_199 rfl ?_
  refine I_new (cl2 := 42) (sl2 := 871) (n2 := 43) (fs := [.null, .int 0, .int 0, .int 0, .int 0, .int 0, .int 0, .int 0, .int 0, .null, .int 0, .int 0, .null, .int 0]) K_10 lX11_78 dX11_init_200 (fun j hj => by
    match j, hj with
    | 0, _ => rfl
    | 1, _ => rfl
    | 2, _ => rfl
    | 3, _ => rfl
    | 4, _ => rfl
    | 5, _ => rfl
    | 6, _ => rfl
    | 7, _ => rfl
    | 8, _ => rfl
    | 9, _ => rfl
    | 10, _ => rfl
    | 11, _ => rfl
    | 12, _ => rfl
    | 13, _ => rfl
    | q + 14, h => exact absurd h (by omega)) (Nat.le_of_ble_eq_true rfl) (Nat.le_of_ble_eq_true rfl) rfl rfl rfl ?_
  refine E_dup dX11_init_203 rfl ?_
  refine E_aload_n dX11_init_204 rfl ?_
  refine E_get (k := 0) (v := .ref (tb Θ + 1)) fX11_11 dX11_init_205 (by omega) rfl rfl ?_
  refine E_ic (v := 0) dX11_init_208 (by decide) ?_
  refine E_aald (k := 1) (j := 0) (q := tb Θ + (14 + 0)) dX11_init_209 (by omega) rfl rfl rfl (by decide) (by decide) rfl ?_
  refine I_call1 (cl2 := 63) (sl2 := 977) (n2 := 64) iX11_80 dX11_init_210 (Nat.le_of_ble_eq_true rfl) (Nat.le_of_ble_eq_true rfl) (Nat.le_of_ble_eq_true rfl) rfl rfl rfl (s_X10_init (w := 42) (F := hST Θ 13 6 0 0 0 0) (fun q hq2 => up_ne (by omega)) up_at z_W42.1 z_W42.2.1 z_W42.2.2.1 z_W42.2.2.2 z_P42 ?_)
  refine O_put (p := 13) (p2 := 14) pX11_87 dX11_init_213 (by omega) rfl rfl (Nat.le_of_ble_eq_true rfl) rfl ?_
  refine E_aload_n dX11_init_216 rfl ?_
  refine I_new (cl2 := 64) (sl2 := 991) (n2 := 65) (fs := [.null, .int 0, .int 0, .int 0, .int 0, .int 0, .int 0, .int 0, .int 0, .null, .int 0, .int 0, .null, .int 0]) K_10 lX11_78 dX11_init_217 (fun j hj => by
    match j, hj with
    | 0, _ => rfl
    | 1, _ => rfl
    | 2, _ => rfl
    | 3, _ => rfl
    | 4, _ => rfl
    | 5, _ => rfl
    | 6, _ => rfl
    | 7, _ => rfl
    | 8, _ => rfl
    | 9, _ => rfl
    | 10, _ => rfl
    | 11, _ => rfl
    | 12, _ => rfl
    | 13, _ => rfl
    | q + 14, h => exact absurd h (by omega)) (Nat.le_of_ble_eq_true rfl) (Nat.le_of_ble_eq_true rfl) rfl rfl rfl ?_
  refine E_dup dX11_init_220 rfl ?_
  refine E_aload_n dX11_init_221 rfl ?_
  refine E_get (k := 0) (v := .ref (tb Θ + 1)) fX11_11 dX11_init_222 (by omega) rfl rfl ?_
  refine E_ic (v := 0) dX11_init_225 (by decide) ?_
  refine E_aald (k := 1) (j := 0) (q := tb Θ + (14 + 0)) dX11_init_226 (by omega) rfl rfl rfl (by decide) (by decide) rfl ?_
  refine I_call1 (cl2 := 85) (sl2 := 1097) (n2 := 86) iX11_80 dX11_init_227 (Nat.le_of_ble_eq_true rfl) (Nat.le_of_ble_eq_true rfl) (Nat.le_of_ble_eq_true rfl) rfl rfl rfl (s_X10_init (w := 64) (F := hST Θ 14 6 0 0 0 0) (fun q hq2 => up_ne (by omega)) up_at z_W64.1 z_W64.2.1 z_W64.2.2.1 z_W64.2.2.2 z_P64 ?_)
  refine O_put (p := 14) (p2 := 15) pX11_90 dX11_init_230 (by omega) rfl rfl (Nat.le_of_ble_eq_true rfl) rfl ?_
  refine E_ic (v := 0) dX11_init_233 (by decide) ?_
  refine E_istore_n dX11_init_234 (by decide) ?_
  refine E.loc (ls' := [(1, .int (nI 0)), (0, .ref (tb Θ + 0))]) ⟨rfl, rfl, trivial⟩ (E.num (cl2 := 85 + 3 * 0) (sl2 := 1097 + 150 * 0) (n2 := 86 + 3 * 0) rfl rfl rfl (l_X11_a ?_ 15 0 rfl))
  refine E_ic (v := 0) dX11_init_264 (by decide) ?_
  refine E_istore_n dX11_init_265 (by decide) ?_
  refine E.loc (ls' := [(1, .int (nI 0)), (0, .ref (tb Θ + 0))]) ⟨rfl, rfl, trivial⟩ (E.num (cl2 := 130 + 2 * 0) (sl2 := 3347 + 27 * 0) (n2 := 131 + 2 * 0) rfl rfl rfl (l_X11_b ?_ 4 0 rfl))
  refine E_ic (v := 0) dX11_init_294 (by decide) ?_
  refine E_istore_n dX11_init_295 (by decide) ?_
  refine E.loc (ls' := [(1, .int (nI 0)), (0, .ref (tb Θ + 0))]) ⟨rfl, rfl, trivial⟩ (E.num (cl2 := 138 + 4 * 0) (sl2 := 3455 + 37 * 0) (n2 := 139 + 4 * 0) rfl rfl rfl (l_X11_c ?_ 5 0 rfl))
  refine E_vret dX11_init_339 rfl rfl ?_
  rw [st_fin]
  exact hq
end Xi
