/-! constructors: rows, the small ones -/
theorem up_at {α : Type} {f : Nat → α} {k : Nat} {e : α} : va_up f k e k = e := if_pos rfl
theorem up_ne {α : Type} {f : Nat → α} {k j : Nat} {e : α} (h : j ≠ k) : va_up f k e j = f j := if_neg h
theorem up_id {α : Type} {f : Nat → α} {k : Nat} {e : α} (h : f k = e) : va_up f k e = f := by
  funext j
  by_cases c : j = k
  · rw [c, up_at, h]
  · rw [up_ne c]
theorem up_up {α : Type} {f : Nat → α} {k : Nat} {e e' : α} : va_up (va_up f k e) k e' = va_up f k e' := by
  funext j
  by_cases c : j = k
  · rw [c, up_at, up_at]
  · rw [up_ne c, up_ne c, up_ne c]
/-- the first i places of an array of references are filled -/
def upto (g : Nat → Nat) (i : Nat) : Nat → Option Nat := fun j => if j < i then some (g j) else none
theorem upto_0 {g : Nat → Nat} : upto g 0 = fun _ => none := by
  funext j
  exact if_neg (by omega)
theorem upto_up {g : Nat → Nat} {i : Nat} : va_up (upto g i) i (some (g i)) = upto g (i + 1) := by
  funext j
  unfold upto
  by_cases c : j = i
  · rw [c, up_at, if_pos (by omega)]
  · rw [up_ne c]
    by_cases h : j < i
    · rw [if_pos h, if_pos (by omega)]
    · rw [if_neg h, if_neg (by omega)]
section Ini
variable {Θ : Th} {d mc ms : Nat} {y : MethodName} {cc : ByteArray} {nL : Nat} {ret : Option FieldType} {cl sl n cl2 sl2 n2 : Nat} {G : HP} {pc pc' : Nat} {ls : LV} {st : List Value} {Q : QT}
theorem E.num (h1 : cl = cl2) (h2 : sl = sl2) (h3 : n = n2) (K : E Θ d mc ms y cc nL ret cl2 sl2 n2 G pc ls st Q) : E Θ d mc ms y cc nL ret cl sl n G pc ls st Q := by
  subst h1; subst h2; subst h3
  exact K
theorem I_newi {len : Nat} {x : Int32} (hd : Dc cc pc (.newarray .int) 2 pc') (hx : x = nI len) (hlen : len < 2 ^ 20) (hG : G n = iA Θ 0 len (fun _ => 0)) (hc1 : cl + 1 ≤ mc) (hs1 : sl + len ≤ ms) (h1 : cl + 1 = cl2) (h2 : sl + len = sl2) (h3 : n + 1 = n2) (K : E Θ d mc ms y cc nL ret cl2 sl2 n2 G pc' ls (.ref (tb Θ + n) :: st) Q) : E Θ d mc ms y cc nL ret cl sl n G pc ls (.int x :: st) Q := by
  refine E_newi ac_int hd hx hlen hc1 hs1 ?_
  rw [up_id hG]
  exact E.num h1 h2 h3 K
theorem I_newz {len : Nat} {x : Int32} (hd : Dc cc pc (.newarray .boolean) 2 pc') (hx : x = nI len) (hlen : len < 2 ^ 20) (hG : G n = iA Θ 2 len (fun _ => 0)) (hc1 : cl + 1 ≤ mc) (hs1 : sl + len ≤ ms) (h1 : cl + 1 = cl2) (h2 : sl + len = sl2) (h3 : n + 1 = n2) (K : E Θ d mc ms y cc nL ret cl2 sl2 n2 G pc' ls (.ref (tb Θ + n) :: st) Q) : E Θ d mc ms y cc nL ret cl sl n G pc ls (.int x :: st) Q := by
  refine E_newz ac_boolean hd hx hlen hc1 hs1 ?_
  rw [up_id hG]
  exact E.num h1 h2 h3 K
theorem I_newc {len : Nat} {x : Int32} (hd : Dc cc pc (.newarray .char) 2 pc') (hx : x = nI len) (hlen : len < 2 ^ 20) (hG : G n = iA Θ 1 len (fun _ => 0)) (hc1 : cl + 1 ≤ mc) (hs1 : sl + len ≤ ms) (h1 : cl + 1 = cl2) (h2 : sl + len = sl2) (h3 : n + 1 = n2) (K : E Θ d mc ms y cc nL ret cl2 sl2 n2 G pc' ls (.ref (tb Θ + n) :: st) Q) : E Θ d mc ms y cc nL ret cl sl n G pc ls (.int x :: st) Q := by
  refine E_newc ac_char hd hx hlen hc1 hs1 ?_
  rw [up_id hG]
  exact E.num h1 h2 h3 K
theorem I_newq {i len t : Nat} {x : Int32} {C0 : String} (hw : Cond.classLink y.cls i C0 ∈ TG) (hao : C0 ∈ aoL) (ht : (tys Θ)[t]? = some (tk Θ t, .object C0)) (hd : Dc cc pc (.anewarray i) 3 pc') (hx : x = nI len) (hlen : len < 2 ^ 20) (hG : G n = rA Θ t len (fun _ => none)) (hc1 : cl + 1 ≤ mc) (hs1 : sl + len ≤ ms) (h1 : cl + 1 = cl2) (h2 : sl + len = sl2) (h3 : n + 1 = n2) (K : E Θ d mc ms y cc nL ret cl2 sl2 n2 G pc' ls (.ref (tb Θ + n) :: st) Q) : E Θ d mc ms y cc nL ret cl sl n G pc ls (.int x :: st) Q := by
  refine E_newq hw hao ht hd hx hlen hc1 hs1 ?_
  rw [up_id hG]
  exact E.num h1 h2 h3 K
theorem I_new {i ci N : Nat} {C0 : String} {T : u_T} {ty : Nat → FieldType} {fs : List Value} (hK0 : Kc ci C0 T N ty) (hw : Cond.classLink y.cls i C0 ∈ TG) (hd : Dc cc pc (.new i) 3 pc') (hfs : ∀ j, j < N → defaultValue (ty j) = vp_V fs j) (hc1 : cl + 1 ≤ mc) (hs1 : sl + N ≤ ms) (h1 : cl + 1 = cl2) (h2 : sl + N = sl2) (h3 : n + 1 = n2) (K : E Θ d mc ms y cc nL ret cl2 sl2 n2 (va_up G n (.inr (ci, fs))) pc' ls (.ref (tb Θ + n) :: st) Q) : E Θ d mc ms y cc nL ret cl sl n G pc ls st Q :=
  E_new hK0 hw hd hfs hc1 hs1 (E.num h1 h2 h3 K)
theorem I_newF {i ci : Nat} {C0 : String} {T : u_T} {ty : Nat → FieldType} (hK0 : Kc ci C0 T 0 ty) (hw : Cond.classLink y.cls i C0 ∈ TG) (hd : Dc cc pc (.new i) 3 pc') (hG : G n = .inr (ci, [])) (hc1 : cl + 1 ≤ mc) (hs1 : sl + 0 ≤ ms) (h1 : cl + 1 = cl2) (h2 : sl + 0 = sl2) (h3 : n + 1 = n2) (K : E Θ d mc ms y cc nL ret cl2 sl2 n2 G pc' ls (.ref (tb Θ + n) :: st) Q) : E Θ d mc ms y cc nL ret cl sl n G pc ls st Q := by
  refine E_new (fs := []) hK0 hw hd (fun j hj => absurd hj (by omega)) hc1 hs1 ?_
  rw [up_id hG]
  exact E.num h1 h2 h3 K
variable {mc' ms' : Nat} {y' : MethodName} {cc' : ByteArray} {nL' i : Nat}
theorem I_call0 {kb : Nat} (hk : IOk y.cls i y' cc' nL' 0) (hd : Dc cc pc (.invokespecial i) 3 pc') (hst : (st.map fun v => v.category).sum ≤ 8) (hc1 : cl + mc' ≤ mc) (hs1 : sl + ms' ≤ ms) (h1 : cl + mc' = cl2) (h2 : sl + ms' = sl2) (h3 : n + mc' = n2) (K : C Θ d mc' ms' y' cc' nL' none [.ref kb] n G (Qv (fun G' => E Θ (d + 1) mc ms y cc nL ret cl2 sl2 n2 G' pc' ls st Q))) : E Θ (d + 1) mc ms y cc nL ret cl sl n G pc ls (.ref kb :: st) Q :=
  E_I (As := []) hk hd rfl hst K hc1 hs1 (fun v G' hq => by
    cases v with
    | none => exact E.num h1 h2 h3 hq
    | some r => exact hq.elim)
theorem I_call1 {kb : Nat} {v0 : Value} (hk : IOk y.cls i y' cc' nL' 1) (hd : Dc cc pc (.invokespecial i) 3 pc') (hst : (st.map fun v => v.category).sum ≤ 8) (hc1 : cl + mc' ≤ mc) (hs1 : sl + ms' ≤ ms) (h1 : cl + mc' = cl2) (h2 : sl + ms' = sl2) (h3 : n + mc' = n2) (K : C Θ d mc' ms' y' cc' nL' none [.ref kb, v0] n G (Qv (fun G' => E Θ (d + 1) mc ms y cc nL ret cl2 sl2 n2 G' pc' ls st Q))) : E Θ (d + 1) mc ms y cc nL ret cl sl n G pc ls (v0 :: .ref kb :: st) Q :=
  E_I (As := [v0]) hk hd rfl hst K hc1 hs1 (fun v G' hq => by
    cases v with
    | none => exact E.num h1 h2 h3 hq
    | some r => exact hq.elim)
end Ini
section Sml
variable {Θ : Th} {d : Nat} {G F : HP} {Q : HP → Prop} {n k a : Nat}
theorem s_X3_init (hq : Q G) : C Θ (d + 1) 0 0 yX3_init cX3_init 1 none [.ref a] n G (Qv Q) := by
  refine C_of rfl rfl (Nat.le_of_ble_eq_true rfl) ?_
  refine E_aload_n dX3_init_0 rfl ?_
  refine E_objInit oX3_1 w_oi w_oc dX3_init_1 (Nat.le_of_ble_eq_true rfl) ?_
  exact E_vret dX3_init_4 rfl rfl hq
theorem s_X2_init (hq : Q G) : C Θ (d + 2) 0 0 yX2_init cX2_init 1 none [.ref a] n G (Qv Q) := by
  refine C_of rfl rfl (Nat.le_of_ble_eq_true rfl) ?_
  refine E_aload_n dX2_init_0 rfl ?_
  refine I_call0 (cl2 := 0) (sl2 := 0) (n2 := n) iX2_1 dX2_init_1 (Nat.le_of_ble_eq_true rfl) (Nat.le_of_ble_eq_true rfl) (Nat.le_of_ble_eq_true rfl) rfl rfl rfl (s_X3_init ?_)
  exact E_vret dX2_init_4 rfl rfl hq
theorem s_X1_init (hq : Q G) : C Θ (d + 2) 0 0 yX1_init cX1_init 1 none [.ref a] n G (Qv Q) := by
  refine C_of rfl rfl (Nat.le_of_ble_eq_true rfl) ?_
  refine E_aload_n dX1_init_0 rfl ?_
  refine I_call0 (cl2 := 0) (sl2 := 0) (n2 := n) iX1_3 dX1_init_1 (Nat.le_of_ble_eq_true rfl) (Nat.le_of_ble_eq_true rfl) (Nat.le_of_ble_eq_true rfl) rfl rfl rfl (s_X3_init ?_)
  exact E_vret dX1_init_4 rfl rfl hq
theorem s_X0_init (hq : Q G) : C Θ (d + 2) 0 0 yX0_init cX0_init 1 none [.ref a] n G (Qv Q) := by
  refine C_of rfl rfl (Nat.le_of_ble_eq_true rfl) ?_
  refine E_aload_n dX0_init_0 rfl ?_
  refine I_call0 (cl2 := 0) (sl2 := 0) (n2 := n) iX0_1 dX0_init_1 (Nat.le_of_ble_eq_true rfl) (Nat.le_of_ble_eq_true rfl) (Nat.le_of_ble_eq_true rfl) rfl rfl rfl (s_X3_init ?_)
  exact E_vret dX0_init_4 rfl rfl hq
theorem s_X9_init (hq : Q G) : C Θ (d + 3) 0 0 yX9_init cX9_init 1 none [.ref a] n G (Qv Q) := by
  refine C_of rfl rfl (Nat.le_of_ble_eq_true rfl) ?_
  refine E_aload_n dX9_init_0 rfl ?_
  refine I_call0 (cl2 := 0) (sl2 := 0) (n2 := n) iX9_1 dX9_init_1 (Nat.le_of_ble_eq_true rfl) (Nat.le_of_ble_eq_true rfl) (Nat.le_of_ble_eq_true rfl) rfl rfl rfl (s_X2_init ?_)
  exact E_vret dX9_init_4 rfl rfl hq
theorem s_X6_init (hq : Q G) : C Θ (d + 3) 0 0 yX6_init cX6_init 1 none [.ref a] n G (Qv Q) := by
  refine C_of rfl rfl (Nat.le_of_ble_eq_true rfl) ?_
  refine E_aload_n dX6_init_0 rfl ?_
  refine I_call0 (cl2 := 0) (sl2 := 0) (n2 := n) iX6_1 dX6_init_1 (Nat.le_of_ble_eq_true rfl) (Nat.le_of_ble_eq_true rfl) (Nat.le_of_ble_eq_true rfl) rfl rfl rfl (s_X1_init ?_)
  exact E_vret dX6_init_4 rfl rfl hq
theorem s_X4_init (hG : ∀ q, q < k → G q = F q) (hk : G k = .inr (4, [.null, .int 0, .int 0, .null])) (hF : F k = .inr (4, [.ref a, .int 0, .int 0, .ref (tb Θ + (k + 1))])) (hf0 : F (k + 1) = iA Θ 0 6 (fun _ => 0)) (hq : Q F) : C Θ (d + 1) 1 6 yX4_init cX4_init 2 none [.ref (tb Θ + k), .ref a] (k + 1) G (Qv Q) := by
  refine C_of rfl rfl (Nat.le_of_ble_eq_true rfl) ?_
  refine E_aload_n dX4_init_0 rfl ?_
  refine E_objInit oX4_3 w_oi w_oc dX4_init_1 (Nat.le_of_ble_eq_true rfl) ?_
  refine E_aload_n dX4_init_4 rfl ?_
  refine E_bipush (v := 6) dX4_init_5 (by decide) ?_
  refine E_newi (len := 6) ac_int dX4_init_7 rfl (by decide) (Nat.le_of_ble_eq_true rfl) (Nat.le_of_ble_eq_true rfl) ?_
  refine E_putF (k := k) pX4_9 dX4_init_9 rfl (by omega) ((up_ne (by omega)).trans hk) rfl rfl (Nat.le_of_ble_eq_true rfl) ?_
  refine E_aload_n dX4_init_12 rfl ?_
  refine E_aload_n dX4_init_13 rfl ?_
  refine E_put (k := k) fX4_15 dX4_init_14 (by omega) (up_at) rfl rfl (Nat.le_of_ble_eq_true rfl) ?_
  refine E.heap (G' := F) (fun q hq2 => ?_) (E_vret dX4_init_17 rfl rfl hq)
  rcases (show q < k ∨ q = k ∨ q = k + 1 by omega) with h | rfl | rfl
  · rw [up_ne (by omega), up_ne (by omega), up_ne (by omega), hG q h]
  · rw [up_at, hF]; rfl
  · rw [up_ne (by omega), up_ne (by omega), up_at, hf0]
theorem s_X5_init (hG : ∀ q, q < k → G q = F q) (hk : G k = .inr (5, [.int 0, .int 0, .null])) (hF : F k = .inr (5, [.int (-1), .int 0, .ref (tb Θ + (k + 1))])) (hf0 : F (k + 1) = iA Θ 0 24 (fun _ => 0)) (hq : Q F) : C Θ (d + 1) 1 24 yX5_init cX5_init 1 none [.ref (tb Θ + k)] (k + 1) G (Qv Q) := by
  refine C_of rfl rfl (Nat.le_of_ble_eq_true rfl) ?_
  refine E_aload_n dX5_init_0 rfl ?_
  refine E_objInit oX5_3 w_oi w_oc dX5_init_1 (Nat.le_of_ble_eq_true rfl) ?_
  refine E_aload_n dX5_init_4 rfl ?_
  refine E_ic (v := (-1)) dX5_init_5 (by decide) ?_
  refine E_put (k := k) fX5_9 dX5_init_6 (by omega) (hk) rfl rfl (Nat.le_of_ble_eq_true rfl) ?_
  refine E_aload_n dX5_init_9 rfl ?_
  refine E_bipush (v := 24) dX5_init_10 (by decide) ?_
  refine E_newi (len := 24) ac_int dX5_init_12 rfl (by decide) (Nat.le_of_ble_eq_true rfl) (Nat.le_of_ble_eq_true rfl) ?_
  refine E_putF (k := k) pX5_15 dX5_init_14 rfl (by omega) ((up_ne (by omega)).trans up_at) rfl rfl (Nat.le_of_ble_eq_true rfl) ?_
  refine E.heap (G' := F) (fun q hq2 => ?_) (E_vret dX5_init_17 rfl rfl hq)
  rcases (show q < k ∨ q = k ∨ q = k + 1 by omega) with h | rfl | rfl
  · rw [up_ne (by omega), up_ne (by omega), up_ne (by omega), hG q h]
  · rw [up_at, hF]; rfl
  · rw [up_ne (by omega), up_at, hf0]
theorem s_X7_init (hG : ∀ q, q < k → G q = F q) (hk : G k = .inr (7, [.null, .int 0, .int 0, .int 0, .int 0, .null])) (hF : F k = .inr (7, [.ref (tb Θ + (k + 1)), .int 0, .int 0, .int 0, .int 0, .null])) (hf0 : F (k + 1) = iA Θ 0 96 (fun _ => 0)) (hq : Q F) : C Θ (d + 1) 1 96 yX7_init cX7_init 1 none [.ref (tb Θ + k)] (k + 1) G (Qv Q) := by
  refine C_of rfl rfl (Nat.le_of_ble_eq_true rfl) ?_
  refine E_aload_n dX7_init_0 rfl ?_
  refine E_objInit oX7_3 w_oi w_oc dX7_init_1 (Nat.le_of_ble_eq_true rfl) ?_
  refine E_aload_n dX7_init_4 rfl ?_
  refine E_bipush (v := 96) dX7_init_5 (by decide) ?_
  refine E_newi (len := 96) ac_int dX7_init_7 rfl (by decide) (Nat.le_of_ble_eq_true rfl) (Nat.le_of_ble_eq_true rfl) ?_
  refine E_putF (k := k) pX7_9 dX7_init_9 rfl (by omega) ((up_ne (by omega)).trans hk) rfl rfl (Nat.le_of_ble_eq_true rfl) ?_
  refine E.heap (G' := F) (fun q hq2 => ?_) (E_vret dX7_init_12 rfl rfl hq)
  rcases (show q < k ∨ q = k ∨ q = k + 1 by omega) with h | rfl | rfl
  · rw [up_ne (by omega), up_ne (by omega), hG q h]
  · rw [up_at, hF]; rfl
  · rw [up_ne (by omega), up_at, hf0]
theorem s_X8_init {x : Int32} (hG : ∀ q, q < k → G q = F q) (hk : G k = .inr (8, [.int 0, .int 0, .int 0, .int 0, .null, .null])) (hF : F k = .inr (8, [.int x, .int 0, .int 0, .int 0, .ref (tb Θ + (k + 1)), .ref (tb Θ + (k + 2))])) (hf0 : F (k + 1) = iA Θ 0 96 (fun _ => 0)) (hf1 : F (k + 2) = iA Θ 0 48 (fun _ => 0)) (hq : Q F) : C Θ (d + 1) 2 144 yX8_init cX8_init 2 none [.ref (tb Θ + k), .int x] (k + 1) G (Qv Q) := by
  refine C_of rfl rfl (Nat.le_of_ble_eq_true rfl) ?_
  refine E_aload_n dX8_init_0 rfl ?_
  refine E_objInit oX8_3 w_oi w_oc dX8_init_1 (Nat.le_of_ble_eq_true rfl) ?_
  refine E_aload_n dX8_init_4 rfl ?_
  refine E_bipush (v := 96) dX8_init_5 (by decide) ?_
  refine E_newi (len := 96) ac_int dX8_init_7 rfl (by decide) (Nat.le_of_ble_eq_true rfl) (Nat.le_of_ble_eq_true rfl) ?_
  refine E_putF (k := k) pX8_9 dX8_init_9 rfl (by omega) ((up_ne (by omega)).trans hk) rfl rfl (Nat.le_of_ble_eq_true rfl) ?_
  refine E_aload_n dX8_init_12 rfl ?_
  refine E_bipush (v := 48) dX8_init_13 (by decide) ?_
  refine E_newi (len := 48) ac_int dX8_init_15 rfl (by decide) (Nat.le_of_ble_eq_true rfl) (Nat.le_of_ble_eq_true rfl) ?_
  refine E_putF (k := k) pX8_15 dX8_init_17 rfl (by omega) ((up_ne (by omega)).trans up_at) rfl rfl (Nat.le_of_ble_eq_true rfl) ?_
  refine E_aload_n dX8_init_20 rfl ?_
  refine E_iload_n dX8_init_21 rfl ?_
  refine E_putF (k := k) pX8_18 dX8_init_22 rfl (by omega) (up_at) rfl rfl (Nat.le_of_ble_eq_true rfl) ?_
  refine E.heap (G' := F) (fun q hq2 => ?_) (E_vret dX8_init_25 rfl rfl hq)
  rcases (show q < k ∨ q = k ∨ q = k + 1 ∨ q = k + 2 by omega) with h | rfl | rfl | rfl
  · rw [up_ne (by omega), up_ne (by omega), up_ne (by omega), up_ne (by omega), up_ne (by omega), hG q h]
  · rw [up_at, hF]; rfl
  · rw [up_ne (by omega), up_ne (by omega), up_ne (by omega), up_ne (by omega), up_at, hf0]
  · rw [up_ne (by omega), up_ne (by omega), up_at, hf1]
end Sml
