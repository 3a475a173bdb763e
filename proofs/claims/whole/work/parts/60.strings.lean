/-! String constants, and String's own methods that are asked of them -/
theorem tw_797 : Cond.instanceMethod yJ0_length_8abf5 ∈ TG := TG_in (seg_4 (List.mem_of_getElem? (i := 11) (by decide +kernel))) rfl
theorem tw_798 : Cond.selects "java/lang/String" yJ0_length_8abf5 yJ0_length_8abf5 ∈ TG := TG_in (seg_4 (List.mem_of_getElem? (i := 12) (by decide +kernel))) rfl
theorem tw_801 : Cond.instanceMethod yJ0_coder_7d493 ∈ TG := TG_in (seg_4 (List.mem_of_getElem? (i := 15) (by decide +kernel))) rfl
theorem tw_802 : Cond.selects "java/lang/String" yJ0_coder_7d493 yJ0_coder_7d493 ∈ TG := TG_in (seg_4 (List.mem_of_getElem? (i := 16) (by decide +kernel))) rfl
theorem tw_804 : Cond.fieldLink "java/lang/String" 38 "java/lang/String" "COMPACT_STRINGS" "Z" ∈ TG := TG_in (seg_4 (List.mem_of_getElem? (i := 18) (by decide +kernel))) rfl
theorem tw_807 : Cond.instanceMethod yJ0_charAt_5068e ∈ TG := TG_in (seg_4 (List.mem_of_getElem? (i := 21) (by decide +kernel))) rfl
theorem tw_808 : Cond.selects "java/lang/String" yJ0_charAt_5068e yJ0_charAt_5068e ∈ TG := TG_in (seg_4 (List.mem_of_getElem? (i := 22) (by decide +kernel))) rfl
theorem tw_811 : Cond.instanceMethod yJ0_isLatin1_aae02 ∈ TG := TG_in (seg_4 (List.mem_of_getElem? (i := 25) (by decide +kernel))) rfl
theorem tw_812 : Cond.selects "java/lang/String" yJ0_isLatin1_aae02 yJ0_isLatin1_aae02 ∈ TG := TG_in (seg_4 (List.mem_of_getElem? (i := 26) (by decide +kernel))) rfl
theorem tw_820 : Cond.fieldLink "java/lang/String" 1053 "jdk/internal/util/Preconditions" "SIOOBE_FORMATTER" "Ljava/util/function/BiFunction;" ∈ TG := TG_in (seg_4 (List.mem_of_getElem? (i := 34) (by decide +kernel))) rfl
theorem tw_892 : Cond.instanceMethod yJ0_indexOf_0f7a4 ∈ TG := TG_in (seg_4 (List.mem_of_getElem? (i := 106) (by decide +kernel))) rfl
theorem tw_893 : Cond.selects "java/lang/String" yJ0_indexOf_0f7a4 yJ0_indexOf_0f7a4 ∈ TG := TG_in (seg_4 (List.mem_of_getElem? (i := 107) (by decide +kernel))) rfl
theorem tw_896 : Cond.instanceMethod yJ0_indexOf_7cf53 ∈ TG := TG_in (seg_4 (List.mem_of_getElem? (i := 110) (by decide +kernel))) rfl
theorem tw_897 : Cond.selects "java/lang/String" yJ0_indexOf_7cf53 yJ0_indexOf_7cf53 ∈ TG := TG_in (seg_4 (List.mem_of_getElem? (i := 111) (by decide +kernel))) rfl
theorem tw_1551 : Cond.fieldLink "java/lang/String" 9 "java/lang/String" "value" "[B" ∈ TG := TG_in (seg_7 (List.mem_of_getElem? (i := 45) (by decide +kernel))) rfl
theorem tw_1552 : Cond.fieldLink "java/lang/String" 15 "java/lang/String" "coder" "B" ∈ TG := TG_in (seg_7 (List.mem_of_getElem? (i := 46) (by decide +kernel))) rfl
def scp : List Nat := [57, 59, 61, 112, 114, 116]
def stx : List String := ["speech", "fee", "fine", "dtn", "cs", "tb"]
def lnS : List Nat := [6, 3, 4, 3, 2, 2]
def bySt : List (List Int32) := [[115, 112, 101, 101, 99, 104], [102, 101, 101], [102, 105, 110, 101], [100, 116, 110], [99, 115], [116, 98]]
def sby (i k : Nat) : Int32 := (bySt.getD i []).getD k 0
/-- what is known of the constants and of two static fields -/
def STX (adK adV : Nat → Nat) (fv : Value) (Θ : Th) (U : State) (H : Heap) : Prop := vk_S 6 lnS bySt adK adV (AA Θ) U H ∧ (∀ i, i < 6 → vk_R RX7 (scp.getD i 0) (stx.getD i "") (adK i) U) ∧ va_Z "java/lang/String" "COMPACT_STRINGS" "Z" (.int 1) (AA Θ) U H ∧ va_Z "jdk/internal/util/Preconditions" "SIOOBE_FORMATTER" "Ljava/util/function/BiFunction;" fv (AA Θ) U H
def HasS (Θ : Th) (adK adV : Nat → Nat) (fv : Value) : Prop := (fv = .null ∨ ∃ a, fv = .ref a) ∧ ∀ (U : State) (H : Heap), tX Θ U H → STX adK adV fv Θ U H
def VX (own : String) (i : Nat) (y : MethodName) (cc : ByteArray) (nL : Nat) (ret : Option FieldType) (k : Nat) : Prop := Cond.methodLink own i y ∈ TG ∧ Cond.instanceMethod y ∈ TG ∧ Cond.initialized y.cls ∈ TG ∧ Cond.selects "java/lang/String" y y ∈ TG ∧ Cond.code y cc nL ret ∈ TG ∧ pdn y k ∧ nL ≤ 20
theorem xX7_67 : VX RX7 67 yJ0_length_8abf5 cJ0_length_8abf5 1 (some .int) 0 := ⟨tw_796, tw_797, tw_84, tw_798, tw_799, ⟨by decide +kernel, by decide +kernel, by decide +kernel⟩, by decide⟩
theorem xJ0_505 : VX RJ0 505 yJ0_length_8abf5 cJ0_length_8abf5 1 (some .int) 0 := ⟨tw_899, tw_797, tw_84, tw_798, tw_799, ⟨by decide +kernel, by decide +kernel, by decide +kernel⟩, by decide⟩
theorem xJ0_335 : VX RJ0 335 yJ0_coder_7d493 cJ0_coder_7d493 1 (some .byte) 0 := ⟨tw_800, tw_801, tw_84, tw_802, tw_803, ⟨by decide +kernel, by decide +kernel, by decide +kernel⟩, by decide⟩
theorem xX7_71 : VX RX7 71 yJ0_charAt_5068e cJ0_charAt_5068e 2 (some .char) 1 := ⟨tw_806, tw_807, tw_84, tw_808, tw_809, ⟨by decide +kernel, by decide +kernel, by decide +kernel⟩, by decide⟩
theorem xJ0_492 : VX RJ0 492 yJ0_isLatin1_aae02 cJ0_isLatin1_aae02 1 (some .boolean) 0 := ⟨tw_810, tw_811, tw_84, tw_812, tw_813, ⟨by decide +kernel, by decide +kernel, by decide +kernel⟩, by decide⟩
theorem xX7_118 : VX RX7 118 yJ0_indexOf_0f7a4 cJ0_indexOf_0f7a4 2 (some .int) 1 := ⟨tw_891, tw_892, tw_84, tw_893, tw_894, ⟨by decide +kernel, by decide +kernel, by decide +kernel⟩, by decide⟩
theorem xJ0_633 : VX RJ0 633 yJ0_indexOf_7cf53 cJ0_indexOf_7cf53 3 (some .int) 2 := ⟨tw_895, tw_896, tw_84, tw_897, tw_898, ⟨by decide +kernel, by decide +kernel, by decide +kernel⟩, by decide⟩
section St
variable {Θ : Th} {d mc ms : Nat} {y : MethodName} {cc : ByteArray} {nL : Nat} {ret : Option FieldType} {cl sl n : Nat} {G : HP} {pc pc' : Nat} {ls : LV} {st : List Value} {Q : QT} {adK adV : Nat → Nat} {fv : Value}
theorem E_ldcS {i c : Nat} (hX : HasS Θ adK adV fv) (hi : i < 6) (hc : scp.getD i 0 = c) (hy : y.cls = RX7) (hd : Dc cc pc (.ldc c) 2 pc') (K : E Θ d mc ms y cc nL ret cl sl n G pc' ls (.ref (adK i) :: st) Q) : E Θ d mc ms y cc nL ret cl sl n G pc ls st Q := by
  obtain ⟨hd, rfl⟩ := hd
  intro a b p e R s m args below meth c hE hn H locs la hH hS hl Z hz
  subst hc
  exact va_ldcS hE.1 hE.2.1 (own := RX7) (hy ▸ hE.2.2.2.2.2.1) ((hX.2 _ _ hE.2.2.2.2.2.2.2.2.1).2.1 i hi) hd (K a b p e R s m args below meth c hE hn H locs la hH hS hl Z hz)
theorem E_getsX {i : Nat} {C0 n0 d0 : String} {v : Value} (hZ : ∀ (U : State) (H : Heap), tX Θ U H → va_Z C0 n0 d0 v (AA Θ) U H) (hw : Cond.fieldLink y.cls i C0 n0 d0 ∈ TG) (hd : Dc cc pc (.getstatic i) 3 pc') (K : E Θ d mc ms y cc nL ret cl sl n G pc' ls (v :: st) Q) : E Θ d mc ms y cc nL ret cl sl n G pc ls st Q := by
  obtain ⟨hd, rfl⟩ := hd
  intro a b p e R s m args below meth c hE hn H locs la hH hS hl Z hz
  exact va_gets hE.1 hE.2.1 (hZ _ _ hE.2.2.2.2.2.2.2.2.1) hS hE.2.2.2.2.2.1 (hE.2.2.2.2.2.2.1 _ hw) (fun _ h9 => h9) hd (K a b p e R s m args below meth c hE hn H locs la hH hS hl Z hz)
theorem E_getX {i q : Nat} {o0 n0 d0 : String} {v : Value} (hF : ∀ (U : State) (H : Heap), tX Θ U H → va_OF o0 n0 d0 v q (AA Θ) U H) (hw : Cond.fieldLink y.cls i o0 n0 d0 ∈ TG) (hd : Dc cc pc (.getfield i) 3 pc') (K : E Θ d mc ms y cc nL ret cl sl n G pc' ls (v :: st) Q) : E Θ d mc ms y cc nL ret cl sl n G pc ls (.ref q :: st) Q := by
  obtain ⟨hd, rfl⟩ := hd
  intro a b p e R s m args below meth c hE hn H locs la hH hS hl Z hz
  exact vk_getf hE.1 hE.2.1 (hF _ _ hE.2.2.2.2.2.2.2.2.1) hS hE.2.2.2.2.2.1 (hE.2.2.2.2.2.2.1 _ hw) (fun _ h9 => h9) hd (K a b p e R s m args below meth c hE hn H locs la hH hS hl Z hz)
theorem E_lenX {q N : Nat} {f : Nat → Value} (hF : ∀ (U : State) (H : Heap), tX Θ U H → va_T .byte q N f (AA Θ) U H) (hd : Dc cc pc .arraylength 1 pc') (K : E Θ d mc ms y cc nL ret cl sl n G pc' ls (.int (nI N) :: st) Q) : E Θ d mc ms y cc nL ret cl sl n G pc ls (.ref q :: st) Q := by
  obtain ⟨hd, rfl⟩ := hd
  intro a b p e R s m args below meth c hE hn H locs la hH hS hl Z hz
  exact va_tlen hE.1 hE.2.1 (hF _ _ hE.2.2.2.2.2.2.2.2.1) hS rfl hd (K a b p e R s m args below meth c hE hn H locs la hH hS hl Z hz)
theorem E_baldX {q N j : Nat} {f : Nat → Value} {x v : Int32} (hF : ∀ (U : State) (H : Heap), tX Θ U H → va_T .byte q N f (AA Θ) U H) (hx : x = nI j) (hj : j < N) (hN : N < 2 ^ 31) (hv : f j = .int v) (hd : Dc cc pc .baload 1 pc') (K : E Θ d mc ms y cc nL ret cl sl n G pc' ls (.int v :: st) Q) : E Θ d mc ms y cc nL ret cl sl n G pc ls (.int x :: .ref q :: st) Q := by
  obtain ⟨hd, rfl⟩ := hd
  subst hx
  intro a b p e R s m args below meth c hE hn H locs la hH hS hl Z hz
  exact va_tb hE.1 hE.2.1 (hF _ _ hE.2.2.2.2.2.2.2.2.1) hS (vp_in_nI hj hN) (by rw [nI_clamp (Nat.lt_trans hj hN)]; exact hv) hd (K a b p e R s m args below meth c hE hn H locs la hH hS hl Z hz)
theorem E_i2b {x v : Int32} (hd : Dc cc pc .i2b 1 pc') (hv : x.toInt8.toInt32 = v) (K : E Θ d mc ms y cc nL ret cl sl n G pc' ls (.int v :: st) Q) : E Θ d mc ms y cc nL ret cl sl n G pc ls (.int x :: st) Q := by
  obtain ⟨hd, rfl⟩ := hd
  intro a b p e R s m args below meth c hE hn H locs la hH hS hl Z hz
  exact lv_i2b hE.1 hE.2.1 hd hv (K a b p e R s m args below meth c hE hn H locs la hH hS hl Z hz)
variable {mc' ms' nL' k i : Nat} {y' : MethodName} {cc' : ByteArray} {ret' : Option FieldType} {Q' : QT} {As rest : List Value}
theorem E_VX {j : Nat} (hX : HasS Θ adK adV fv) (hj : j < 6) (hk : VX y.cls i y' cc' nL' ret' k) (hd : Dc cc pc (.invokevirtual i) 3 pc') (hn0 : As.length = k) (hst : (rest.map fun v => v.category).sum ≤ 8) (hM : C Θ d mc' ms' y' cc' nL' ret' (.ref (adK j) :: As) n G Q') (hc1 : cl + mc' ≤ mc) (hs1 : sl + ms' ≤ ms) (K : ∀ v G', Q' v G' → E Θ (d + 1) mc ms y cc nL ret (cl + mc') (sl + ms') (n + mc') G' pc' ls (rv v ++ rest) Q) : E Θ (d + 1) mc ms y cc nL ret cl sl n G pc ls (As.reverse ++ .ref (adK j) :: rest) Q := by
  obtain ⟨hd, rfl⟩ := hd
  intro a b p e R s m args below meth c hE hn H locs la hH hS hl Z hz
  intro T0 hT X
  have hu : H.size ≤ s.heap.size + cl := by rw [← hT]; exact X.same.2.2.1
  have hsz := hH.sz hn hE.2.2.2.2.2.2.2.2.2.1 hS hu
  have hr := hE.2.2.2.2.2.2.2.2.2.2.1
  obtain ⟨hw1, hw2, hw3, hw5, hw4, hp, h20⟩ := hk
  have hrm : (rmO d mc' ms').frames + 1 ≤ R.frames ∧ 8 + (nL' + 11) + (rmO d mc' ms').locals ≤ R.locals := ⟨hr.1, by show 8 + (nL' + 11) + 50 * d ≤ _; omega⟩
  exact E_fin (va_runV ⟨hE.1, hE.2.1, hE.2.2.1, hE.2.2.2.2.2.1, hE.2.2.2.2.2.2.1⟩ hM ⟨callB_of k hE.2.2.2.2.2.2.1 (GI_code hw4) rfl rfl rfl (hE.2.2.2.2.2.2.1 _ hw3) (hE.2.2.2.2.2.2.1 _ hw1) hp hrm, hE.2.2.2.2.2.2.1 _ hw2, hE.2.2.2.2.2.2.1 _ hw5⟩ ⟨Pr.blind, vk_recv (hX.2 _ _ hE.2.2.2.2.2.2.2.2.1).1 hj hS, E_pre (As := .ref (adK j) :: As) hsz hH hE.2.2.2.2.2.2.2.1 hE.2.2.2.2.2.2.2.2.1 hE.2.2.2.2.2.2.2.2.2.1 hS⟩ rfl hn0 hl.1 rfl (lv_room hst) hd ⟨by omega, by omega⟩) hT X hE.2.2.2.2.2.2.2.2.2.1 hS (fun v G' H1 locs1 hq h1 h2 => K v G' hq hc1 hs1 p e R s m args below meth c hE (by omega) H1 locs1 la h1 h2 hl Z hz)
theorem E_VX0i {j : Nat} (hX : HasS Θ adK adV fv) (hj : j < 6) (hk : VX y.cls i y' cc' nL' ret' 0) (hd : Dc cc pc (.invokevirtual i) 3 pc') (hst : (st.map fun v => v.category).sum ≤ 8) (K : C Θ d 0 0 y' cc' nL' ret' (.ref (adK j) :: []) n G (Qi (fun r G' => E Θ (d + 1) mc ms y cc nL ret cl sl n G' pc' ls (.int r :: st) Q))) : E Θ (d + 1) mc ms y cc nL ret cl sl n G pc ls (.ref (adK j) :: st) Q := fun a b => E_VX (As := []) hX hj hk hd rfl hst K a b (fun v G' hq => by
  cases v with
  | none => exact hq.elim
  | some r => exact hq) a b
theorem E_VX1i {j : Nat} {v0 : Value} (hX : HasS Θ adK adV fv) (hj : j < 6) (hk : VX y.cls i y' cc' nL' ret' 1) (hd : Dc cc pc (.invokevirtual i) 3 pc') (hst : (st.map fun v => v.category).sum ≤ 8) (K : C Θ d 0 0 y' cc' nL' ret' (.ref (adK j) :: [v0]) n G (Qi (fun r G' => E Θ (d + 1) mc ms y cc nL ret cl sl n G' pc' ls (.int r :: st) Q))) : E Θ (d + 1) mc ms y cc nL ret cl sl n G pc ls (v0 :: .ref (adK j) :: st) Q := fun a b => E_VX (As := [v0]) hX hj hk hd rfl hst K a b (fun v G' hq => by
  cases v with
  | none => exact hq.elim
  | some r => exact hq) a b
theorem E_VX2i {j : Nat} {v0 v1 : Value} (hX : HasS Θ adK adV fv) (hj : j < 6) (hk : VX y.cls i y' cc' nL' ret' 2) (hd : Dc cc pc (.invokevirtual i) 3 pc') (hst : (st.map fun v => v.category).sum ≤ 8) (K : C Θ d 0 0 y' cc' nL' ret' (.ref (adK j) :: [v0, v1]) n G (Qi (fun r G' => E Θ (d + 1) mc ms y cc nL ret cl sl n G' pc' ls (.int r :: st) Q))) : E Θ (d + 1) mc ms y cc nL ret cl sl n G pc ls (v1 :: v0 :: .ref (adK j) :: st) Q := fun a b => E_VX (As := [v0, v1]) hX hj hk hd rfl hst K a b (fun v G' hq => by
  cases v with
  | none => exact hq.elim
  | some r => exact hq) a b
end St
section Su
variable {Θ : Th} {d n : Nat} {G : HP} {adK adV : Nat → Nat} {fv : Value} {Q : Int32 → HP → Prop}
theorem STv {i : Nat} (hX : HasS Θ adK adV fv) (hi : i < 6) : ∀ (U : State) (H : Heap), tX Θ U H → va_OF "java/lang/String" "value" "[B" (.ref (adV i)) (adK i) (AA Θ) U H := fun U H h => ((hX.2 U H h).1.1 i hi).2.2.1
theorem STc {i : Nat} (hX : HasS Θ adK adV fv) (hi : i < 6) : ∀ (U : State) (H : Heap), tX Θ U H → va_OF "java/lang/String" "coder" "B" (.int 0) (adK i) (AA Θ) U H := fun U H h => ((hX.2 U H h).1.1 i hi).2.1
theorem STb {i : Nat} (hX : HasS Θ adK adV fv) (hi : i < 6) : ∀ (U : State) (H : Heap), tX Θ U H → va_T .byte (adV i) (lnS.getD i 0) (fun j => .int (sby i j)) (AA Θ) U H := fun U H h => ((hX.2 U H h).1.1 i hi).2.2.2
theorem STz (hX : HasS Θ adK adV fv) : ∀ (U : State) (H : Heap), tX Θ U H → va_Z "java/lang/String" "COMPACT_STRINGS" "Z" (.int 1) (AA Θ) U H := fun U H h => (hX.2 U H h).2.2.1
theorem STf (hX : HasS Θ adK adV fv) : ∀ (U : State) (H : Heap), tX Θ U H → va_Z "jdk/internal/util/Preconditions" "SIOOBE_FORMATTER" "Ljava/util/function/BiFunction;" fv (AA Θ) U H := fun U H h => (hX.2 U H h).2.2.2
theorem ln_lt : ∀ i, i < 6 → lnS.getD i 0 < 2 ^ 31 ∧ 0 < lnS.getD i 0 ∧ lnS.getD i 0 ≤ 6 := by decide +kernel
theorem sby_c : ∀ i, i < 6 → ∀ k, k < lnS.getD i 0 → ((sby i k &&& 255).toUInt32 % 65536).toInt32 = sby i k := by decide +kernel
theorem s_J0_coder {i : Nat} (hX : HasS Θ adK adV fv) (hi : i < 6) (hq : Q 0 G) : C Θ d 0 0 yJ0_coder_7d493 cJ0_coder_7d493 1 (some .byte) [.ref (adK i)] n G (Qi Q) := by
  refine C_of rfl rfl (Nat.le_of_ble_eq_true rfl) ?_
  refine E_getsX (STz hX) tw_804 dJ0_coder_7d493_0 ?_
  refine E_if_eq dJ0_coder_7d493_3 (fun c => absurd c (by decide)) (fun _ => ?_)
  refine E_aload_n dJ0_coder_7d493_6 rfl ?_
  refine E_getX (STc hX hi) tw_1552 dJ0_coder_7d493_7 ?_
  refine E_goto dJ0_coder_7d493_10 ?_
  refine E_iret dJ0_coder_7d493_14 rfl rfl ?_
  exact hq
theorem s_J0_isLatin1 {i : Nat} (hX : HasS Θ adK adV fv) (hi : i < 6) (hq : Q 1 G) : C Θ d 0 0 yJ0_isLatin1_aae02 cJ0_isLatin1_aae02 1 (some .boolean) [.ref (adK i)] n G (Qi Q) := by
  refine C_of rfl rfl (Nat.le_of_ble_eq_true rfl) ?_
  refine E_getsX (STz hX) tw_804 dJ0_isLatin1_aae02_0 ?_
  refine E_if_eq dJ0_isLatin1_aae02_3 (fun c => absurd c (by decide)) (fun _ => ?_)
  refine E_aload_n dJ0_isLatin1_aae02_6 rfl ?_
  refine E_getX (STc hX hi) tw_1552 dJ0_isLatin1_aae02_7 ?_
  refine E_if_ne dJ0_isLatin1_aae02_10 (fun c => absurd rfl c) (fun _ => ?_)
  refine E_ic (v := 1) dJ0_isLatin1_aae02_13 (by decide) ?_
  refine E_goto dJ0_isLatin1_aae02_14 ?_
  refine E_iret dJ0_isLatin1_aae02_18 rfl rfl ?_
  exact hq
theorem shr0 : ∀ k, k ≤ 6 → nI k >>> ((0 : Int32) &&& 31) = nI k := by decide +kernel
theorem s_J0_length {i : Nat} (hX : HasS Θ adK adV fv) (hi : i < 6) (hq : Q (nI (lnS.getD i 0)) G) : C Θ (d + 1) 0 0 yJ0_length_8abf5 cJ0_length_8abf5 1 (some .int) [.ref (adK i)] n G (Qi Q) := by
  refine C_of rfl rfl (Nat.le_of_ble_eq_true rfl) ?_
  refine E_aload_n dJ0_length_8abf5_0 rfl ?_
  refine E_getX (STv hX hi) tw_1551 dJ0_length_8abf5_1 ?_
  refine E_lenX (STb hX hi) dJ0_length_8abf5_4 ?_
  refine E_aload_n dJ0_length_8abf5_5 rfl ?_
  refine E_VX0i hX hi xJ0_335 dJ0_length_8abf5_6 (Nat.le_of_ble_eq_true rfl) (s_J0_coder hX hi ?_)
  refine E_ishr dJ0_length_8abf5_9 ?_
  rw [shr0 _ (ln_lt i hi).2.2]
  refine E_iret dJ0_length_8abf5_10 rfl rfl ?_
  exact hq
theorem dJ3_checkIndex_8e157_0 : Dc cJ3_checkIndex_8e157 0 (.iload_n 0) 1 1 := by decide +kernel
theorem dJ3_checkIndex_8e157_1 : Db cJ3_checkIndex_8e157 1 (.ifCond .lt 8) (8) 4 9 := by decide +kernel
theorem dJ3_checkIndex_8e157_4 : Dc cJ3_checkIndex_8e157 4 (.iload_n 0) 1 5 := by decide +kernel
theorem dJ3_checkIndex_8e157_5 : Dc cJ3_checkIndex_8e157 5 (.iload_n 1) 1 6 := by decide +kernel
theorem dJ3_checkIndex_8e157_6 : Db cJ3_checkIndex_8e157 6 (.if_icmp .lt 10) (10) 9 16 := by decide +kernel
theorem dJ3_checkIndex_8e157_16 : Dc cJ3_checkIndex_8e157 16 (.iload_n 0) 1 17 := by decide +kernel
theorem dJ3_checkIndex_8e157_17 : Dc cJ3_checkIndex_8e157 17 (.ireturn) 1 18 := by decide +kernel
theorem s_J3_checkIndex {k l : Nat} (hk : k < l) (hl : l < 2000) (hv : fv = .null ∨ ∃ a, fv = .ref a) (hq : Q (nI k) G) : C Θ d 0 0 yJ3_checkIndex_8e157 cJ3_checkIndex_8e157 3 (some .int) [.int (nI k), .int (nI l), fv] n G (Qi Q) := by
  rcases hv with rfl | ⟨a, rfl⟩
  · refine C_of rfl rfl (Nat.le_of_ble_eq_true rfl) ?_
    refine E_iload_n dJ3_checkIndex_8e157_0 rfl ?_
    refine E_if_lt dJ3_checkIndex_8e157_1 (fun c => absurd c (nI_pos (by omega))) (fun _ => ?_)
    refine E_iload_n dJ3_checkIndex_8e157_4 rfl ?_
    refine E_iload_n dJ3_checkIndex_8e157_5 rfl ?_
    refine E_icmp_lt dJ3_checkIndex_8e157_6 (fun _ => ?_) (fun c => absurd (nI_lt hk (by omega)) c)
    refine E_iload_n dJ3_checkIndex_8e157_16 rfl ?_
    refine E_iret dJ3_checkIndex_8e157_17 rfl rfl ?_
    exact hq
  · refine C_of rfl rfl (Nat.le_of_ble_eq_true rfl) ?_
    refine E_iload_n dJ3_checkIndex_8e157_0 rfl ?_
    refine E_if_lt dJ3_checkIndex_8e157_1 (fun c => absurd c (nI_pos (by omega))) (fun _ => ?_)
    refine E_iload_n dJ3_checkIndex_8e157_4 rfl ?_
    refine E_iload_n dJ3_checkIndex_8e157_5 rfl ?_
    refine E_icmp_lt dJ3_checkIndex_8e157_6 (fun _ => ?_) (fun c => absurd (nI_lt hk (by omega)) c)
    refine E_iload_n dJ3_checkIndex_8e157_16 rfl ?_
    refine E_iret dJ3_checkIndex_8e157_17 rfl rfl ?_
    exact hq
theorem s_J0_checkIndex {Q : HP → Prop} {k l : Nat} (hX : HasS Θ adK adV fv) (hk : k < l) (hl : l < 2000) (hq : Q G) : C Θ (d + 1) 0 0 yJ0_checkIndex_df160 cJ0_checkIndex_df160 2 none [.int (nI k), .int (nI l)] n G (Qv Q) := by
  refine C_of rfl rfl (Nat.le_of_ble_eq_true rfl) ?_
  refine E_iload_n dJ0_checkIndex_df160_0 rfl ?_
  refine E_iload_n dJ0_checkIndex_df160_1 rfl ?_
  refine E_getsX (STf hX) tw_820 dJ0_checkIndex_df160_2 ?_
  refine E_S3i sJ0_1059 dJ0_checkIndex_df160_5 (Nat.le_of_ble_eq_true rfl) (s_J3_checkIndex hk hl hX.1 ?_)
  refine E_pop dJ0_checkIndex_df160_8 rfl ?_
  refine E_vret dJ0_checkIndex_df160_9 rfl rfl ?_
  exact hq
theorem s_J1_charAt {i k : Nat} (hX : HasS Θ adK adV fv) (hi : i < 6) (hk : k < lnS.getD i 0) (hq : Q (sby i k) G) : C Θ (d + 2) 0 0 yJ1_charAt_3b067 cJ1_charAt_3b067 2 (some .char) [.ref (adV i), .int (nI k)] n G (Qi Q) := by
  refine C_of rfl rfl (Nat.le_of_ble_eq_true rfl) ?_
  refine E_iload_n dJ1_charAt_3b067_0 rfl ?_
  refine E_aload_n dJ1_charAt_3b067_1 rfl ?_
  refine E_lenX (STb hX hi) dJ1_charAt_3b067_2 ?_
  refine E_S2v sJ1_9 dJ1_charAt_3b067_3 (Nat.le_of_ble_eq_true rfl) (s_J0_checkIndex hX hk (by have := (ln_lt i hi).2.2; omega) ?_)
  refine E_aload_n dJ1_charAt_3b067_6 rfl ?_
  refine E_iload_n dJ1_charAt_3b067_7 rfl ?_
  refine E_baldX (j := k) (STb hX hi) rfl hk (ln_lt i hi).1 rfl dJ1_charAt_3b067_8 ?_
  refine E_sipush (v := 255) dJ1_charAt_3b067_9 (by decide) ?_
  refine E_iand dJ1_charAt_3b067_12 ?_
  refine E_i2c dJ1_charAt_3b067_13 ?_
  refine E_iret dJ1_charAt_3b067_14 rfl (pk_nc _) ?_
  rw [sby_c i hi k hk]
  exact hq
theorem sby_n : ∀ i, i < 6 → ∀ k, k < lnS.getD i 0 → narrow .char (.int (sby i k)) = .int (sby i k) := by
  intro i hi k hk
  have h := pk_nc (sby i k &&& 255)
  rw [sby_c i hi k hk] at h
  exact h
theorem s_J0_charAt {i k : Nat} (hX : HasS Θ adK adV fv) (hi : i < 6) (hk : k < lnS.getD i 0) (hq : Q (sby i k) G) : C Θ (d + 3) 0 0 yJ0_charAt_5068e cJ0_charAt_5068e 2 (some .char) [.ref (adK i), .int (nI k)] n G (Qi Q) := by
  refine C_of rfl rfl (Nat.le_of_ble_eq_true rfl) ?_
  refine E_aload_n dJ0_charAt_5068e_0 rfl ?_
  refine E_VX0i hX hi xJ0_492 dJ0_charAt_5068e_1 (Nat.le_of_ble_eq_true rfl) (s_J0_isLatin1 hX hi ?_)
  refine E_if_eq dJ0_charAt_5068e_4 (fun c => absurd c (by decide)) (fun _ => ?_)
  refine E_aload_n dJ0_charAt_5068e_7 rfl ?_
  refine E_getX (STv hX hi) tw_1551 dJ0_charAt_5068e_8 ?_
  refine E_iload_n dJ0_charAt_5068e_11 rfl ?_
  refine E_S2i sJ0_495 dJ0_charAt_5068e_12 (Nat.le_of_ble_eq_true rfl) (s_J1_charAt hX hi hk ?_)
  refine E_iret dJ0_charAt_5068e_15 rfl (sby_n i hi k hk) ?_
  exact hq
/-- the place of a byte in a constant -/
def ixS (i : Nat) (x : Int32) : Nat → Nat → Int32
  | 0, _ => -1
  | f + 1, k => if sby i k = x then nI k else ixS i x f (k + 1)
theorem s_J1_canEncode {b : Nat} (hb : b < 256) (hq : Q 1 G) : C Θ d 0 0 yJ1_canEncode_9a6ad cJ1_canEncode_9a6ad 1 (some .boolean) [.int (nI b)] n G (Qi Q) := by
  refine C_of rfl rfl (Nat.le_of_ble_eq_true rfl) ?_
  refine E_iload_n dJ1_canEncode_9a6ad_0 rfl ?_
  refine E_if_lt dJ1_canEncode_9a6ad_1 (fun c => absurd c (nI_pos (by omega))) (fun _ => ?_)
  refine E_iload_n dJ1_canEncode_9a6ad_4 rfl ?_
  refine E_sipush (v := 255) dJ1_canEncode_9a6ad_5 (by decide) ?_
  refine E_icmp_gt dJ1_canEncode_9a6ad_8 (fun c => absurd c (i_lt (nI_le (b := 255) (by omega) (by omega)))) (fun _ => ?_)
  refine E_ic (v := 1) dJ1_canEncode_9a6ad_11 (by decide) ?_
  refine E_goto dJ1_canEncode_9a6ad_12 ?_
  refine E_iret dJ1_canEncode_9a6ad_16 rfl rfl ?_
  exact hq
theorem l_J1_indexOfChar {i : Nat} (hX : HasS Θ adK adV fv) (hi : i < 6) {x a1 a2 : Int32} : ∀ (f : Nat) (x5 : Int32) (k : Nat), x5 = nI k → k + f = lnS.getD i 0 → Q (ixS i x f k) G → E Θ d 0 0 yJ1_indexOfChar_4cfef cJ1_indexOfChar_4cfef 6 (some .int) 0 0 n G 7 [(5, .int x5), (4, .int x), (3, .int (nI (lnS.getD i 0))), (2, .int a2), (1, .int a1), (0, .ref (adV i))] [] (Qi Q) := by
  have hl := ln_lt i hi
  intro f
  induction f with
  | zero =>
    intro x5 k hx5 hk hq
    refine E_iload dJ1_indexOfChar_4cfef_7 rfl ?_
    refine E_iload_n dJ1_indexOfChar_4cfef_9 rfl ?_
    refine E_icmp_ge dJ1_indexOfChar_4cfef_10 (fun _ => ?_) (fun c => absurd (by rw [hx5]; exact nI_le (by omega) (by omega)) c)
    refine E_ic (v := (-1)) dJ1_indexOfChar_4cfef_31 (by decide) ?_
    refine E_iret dJ1_indexOfChar_4cfef_32 rfl rfl ?_
    exact hq
  | succ f ih =>
    intro x5 k hx5 hk hq
    refine E_iload dJ1_indexOfChar_4cfef_7 rfl ?_
    refine E_iload_n dJ1_indexOfChar_4cfef_9 rfl ?_
    refine E_icmp_ge dJ1_indexOfChar_4cfef_10 (fun c => absurd c (ge_no (by omega) (by omega) hx5 (by omega))) (fun _ => ?_)
    refine E_aload_n dJ1_indexOfChar_4cfef_13 rfl ?_
    refine E_iload dJ1_indexOfChar_4cfef_14 rfl ?_
    refine E_baldX (j := k) (STb hX hi) hx5 (by omega) hl.1 rfl dJ1_indexOfChar_4cfef_16 ?_
    refine E_iload dJ1_indexOfChar_4cfef_17 rfl ?_
    refine E_icmp_ne dJ1_indexOfChar_4cfef_19 (fun c => ?_) (fun c => ?_)
    · refine E_iinc (v := 1) dJ1_indexOfChar_4cfef_25 rfl (by decide) (by decide) ?_
      refine E_goto dJ1_indexOfChar_4cfef_28 ?_
      rw [ixS, if_neg c] at hq
      exact E.loc (by exact ⟨rfl, rfl, rfl, rfl, rfl, rfl, trivial⟩) (ih _ (k + 1) (by rw [hx5, nI_1]) (by omega) hq)
    · refine E_iload dJ1_indexOfChar_4cfef_22 rfl ?_
      refine E_iret dJ1_indexOfChar_4cfef_24 rfl rfl ?_
      rw [ixS, if_pos c] at hq
      rw [hx5]
      exact hq
theorem i2b_n : ∀ b : Fin 128, (nI b.val).toInt8.toInt32 = nI b.val := by decide +kernel
theorem s_J1_indexOfChar {i b : Nat} (hX : HasS Θ adK adV fv) (hi : i < 6) (hb : b < 128) (hq : Q (ixS i (nI b) (lnS.getD i 0) 0) G) : C Θ d 0 0 yJ1_indexOfChar_4cfef cJ1_indexOfChar_4cfef 6 (some .int) [.ref (adV i), .int (nI b), .int 0, .int (nI (lnS.getD i 0))] n G (Qi Q) := by
  refine C_of rfl rfl (Nat.le_of_ble_eq_true rfl) ?_
  refine E_iload_n dJ1_indexOfChar_4cfef_0 rfl ?_
  refine E_i2b dJ1_indexOfChar_4cfef_1 (i2b_n ⟨b, hb⟩) ?_
  refine E_istore dJ1_indexOfChar_4cfef_2 (by decide) ?_
  refine E_iload_n dJ1_indexOfChar_4cfef_4 rfl ?_
  refine E_istore dJ1_indexOfChar_4cfef_5 (by decide) ?_
  exact E.loc (by exact ⟨rfl, rfl, rfl, rfl, rfl, rfl, trivial⟩) (l_J1_indexOfChar hX hi (lnS.getD i 0) 0 0 rfl (by omega) hq)
theorem s_J1_indexOf {i b : Nat} (hX : HasS Θ adK adV fv) (hi : i < 6) (hb : b < 128) (hq : Q (ixS i (nI b) (lnS.getD i 0) 0) G) : C Θ (d + 1) 0 0 yJ1_indexOf_4cfef cJ1_indexOf_4cfef 4 (some .int) [.ref (adV i), .int (nI b), .int 0, .int (nI (lnS.getD i 0))] n G (Qi Q) := by
  refine C_of rfl rfl (Nat.le_of_ble_eq_true rfl) ?_
  have hl := ln_lt i hi
  refine E_iload_n dJ1_indexOf_4cfef_0 rfl ?_
  refine E_S1i sJ1_88 dJ1_indexOf_4cfef_1 (Nat.le_of_ble_eq_true rfl) (s_J1_canEncode (by omega) ?_)
  refine E_if_ne dJ1_indexOf_4cfef_4 (fun _ => ?_) (fun c => absurd c (by decide))
  refine E_iload_n dJ1_indexOf_4cfef_9 rfl ?_
  refine E_ic (v := 0) dJ1_indexOf_4cfef_10 (by decide) ?_
  refine E_mmax mJ1_92 w_maxs w_mi w_maxc dJ1_indexOf_4cfef_11 (Nat.le_of_ble_eq_true rfl) ?_
  rw [if_neg (by decide)]
  refine E_istore_n dJ1_indexOf_4cfef_14 (by decide) ?_
  refine E_iload_n dJ1_indexOf_4cfef_15 rfl ?_
  refine E_aload_n dJ1_indexOf_4cfef_16 rfl ?_
  refine E_lenX (STb hX hi) dJ1_indexOf_4cfef_17 ?_
  refine E_mmin mJ1_38 w_mins w_mi w_minc dJ1_indexOf_4cfef_18 (Nat.le_of_ble_eq_true rfl) ?_
  rw [if_neg (nI_nlt (Nat.le_refl _) hl.1)]
  refine E_istore_n dJ1_indexOf_4cfef_21 (by decide) ?_
  refine E_iload_n dJ1_indexOf_4cfef_22 rfl ?_
  refine E_iload_n dJ1_indexOf_4cfef_23 rfl ?_
  refine E_icmp_lt dJ1_indexOf_4cfef_24 (fun _ => ?_) (fun c => absurd (nI_lt (a := 0) hl.2.1 hl.1) c)
  refine E_aload_n dJ1_indexOf_4cfef_29 rfl ?_
  refine E_iload_n dJ1_indexOf_4cfef_30 rfl ?_
  refine E_iload_n dJ1_indexOf_4cfef_31 rfl ?_
  refine E_iload_n dJ1_indexOf_4cfef_32 rfl ?_
  refine E_S4i sJ1_95 dJ1_indexOf_4cfef_33 (Nat.le_of_ble_eq_true rfl) (s_J1_indexOfChar hX hi hb ?_)
  refine E_iret dJ1_indexOf_4cfef_36 rfl rfl ?_
  exact hq
theorem s_J0_indexOf2 {i b : Nat} (hX : HasS Θ adK adV fv) (hi : i < 6) (hb : b < 128) (hq : Q (ixS i (nI b) (lnS.getD i 0) 0) G) : C Θ (d + 2) 0 0 yJ0_indexOf_7cf53 cJ0_indexOf_7cf53 3 (some .int) [.ref (adK i), .int (nI b), .int 0] n G (Qi Q) := by
  refine C_of rfl rfl (Nat.le_of_ble_eq_true rfl) ?_
  refine E_aload_n dJ0_indexOf_7cf53_0 rfl ?_
  refine E_VX0i hX hi xJ0_492 dJ0_indexOf_7cf53_1 (Nat.le_of_ble_eq_true rfl) (s_J0_isLatin1 hX hi ?_)
  refine E_if_eq dJ0_indexOf_7cf53_4 (fun c => absurd c (by decide)) (fun _ => ?_)
  refine E_aload_n dJ0_indexOf_7cf53_7 rfl ?_
  refine E_getX (STv hX hi) tw_1551 dJ0_indexOf_7cf53_8 ?_
  refine E_iload_n dJ0_indexOf_7cf53_11 rfl ?_
  refine E_iload_n dJ0_indexOf_7cf53_12 rfl ?_
  refine E_aload_n dJ0_indexOf_7cf53_13 rfl ?_
  refine E_VX0i hX hi xJ0_505 dJ0_indexOf_7cf53_14 (Nat.le_of_ble_eq_true rfl) (s_J0_length hX hi ?_)
  refine E_S4i sJ0_637 dJ0_indexOf_7cf53_17 (Nat.le_of_ble_eq_true rfl) (s_J1_indexOf hX hi hb ?_)
  refine E_goto dJ0_indexOf_7cf53_20 ?_
  refine E_iret dJ0_indexOf_7cf53_36 rfl rfl ?_
  exact hq
theorem s_J0_indexOf {i b : Nat} (hX : HasS Θ adK adV fv) (hi : i < 6) (hb : b < 128) (hq : Q (ixS i (nI b) (lnS.getD i 0) 0) G) : C Θ (d + 3) 0 0 yJ0_indexOf_0f7a4 cJ0_indexOf_0f7a4 2 (some .int) [.ref (adK i), .int (nI b)] n G (Qi Q) := by
  refine C_of rfl rfl (Nat.le_of_ble_eq_true rfl) ?_
  refine E_aload_n dJ0_indexOf_0f7a4_0 rfl ?_
  refine E_iload_n dJ0_indexOf_0f7a4_1 rfl ?_
  refine E_ic (v := 0) dJ0_indexOf_0f7a4_2 (by decide) ?_
  refine E_VX2i hX hi xJ0_633 dJ0_indexOf_0f7a4_3 (Nat.le_of_ble_eq_true rfl) (s_J0_indexOf2 hX hi hb ?_)
  refine E_iret dJ0_indexOf_0f7a4_6 rfl rfl ?_
  exact hq
end Su
