/-! the reference's constructor -/
def o12 (Θ : Th) (p : Nat) : List Value := [vr_ Θ (decide (1 ≤ p)) 160, vr_ Θ (decide (2 ≤ p)) 161, vr_ Θ (decide (3 ≤ p)) 162, .int 0, vr_ Θ (decide (4 ≤ p)) 163, vr_ Θ (decide (5 ≤ p)) 164, vr_ Θ (decide (6 ≤ p)) 165, vr_ Θ (decide (7 ≤ p)) 166, .int 0, .int 0, .int 0, .int 0, .int 0, .int 0, .int 0, vr_ Θ (decide (8 ≤ p)) 167, vr_ Θ (decide (9 ≤ p)) 168, vr_ Θ (decide (10 ≤ p)) 169, .int 0, .int 0, vr_ Θ (decide (11 ≤ p)) 170, .int 0, vr_ Θ (decide (12 ≤ p)) 171, vr_ Θ (decide (13 ≤ p)) 172, vr_ Θ (decide (14 ≤ p)) 173, vr_ Θ (decide (15 ≤ p)) 174, vr_ Θ (decide (16 ≤ p)) 175, vr_ Θ (decide (17 ≤ p)) 176, vr_ Θ (decide (18 ≤ p)) 177, vr_ Θ (decide (19 ≤ p)) 178, vr_ Θ (decide (20 ≤ p)) 179, vr_ Θ (decide (21 ≤ p)) 180, vr_ Θ (decide (22 ≤ p)) 181, vr_ Θ (decide (23 ≤ p)) 182, .int 0]
def hSM (Θ : Th) (p : Nat) (f0 f7 f8 f4 : Nat → Int32) : HP := fun q => if q = 159 then .inr (12, o12 Θ p) else if q = 160 then iA Θ 0 1468 f0 else if q = 167 then iA Θ 1 13 f7 else if q = 168 then iA Θ 0 4 f8 else if q = 174 then iA Θ 0 4 f4 else lay Θ S0 q
section Mi
variable {Θ : Th}
section Ms
variable {p : Nat} {f0 f7 f8 f4 : Nat → Int32}
theorem sm_el {q : Nat} (h1 : q ≠ 159) (h2 : q ≠ 160) (h3 : q ≠ 167) (h4 : q ≠ 168) (h5 : q ≠ 174) : hSM Θ p f0 f7 f8 f4 q = lay Θ S0 q := by
  unfold hSM
  rw [if_neg h1, if_neg h2, if_neg h3, if_neg h4, if_neg h5]
theorem sm_ext {G G' : HP} (h0 : G 159 = G' 159) (h1 : G 160 = G' 160) (h2 : G 167 = G' 167) (h5 : G 168 = G' 168) (h7 : G 174 = G' 174) (h : ∀ q, q ≠ 159 → q ≠ 160 → q ≠ 167 → q ≠ 168 → q ≠ 174 → G q = G' q) : G = G' := by
  funext q
  by_cases c0 : q = 159
  · rw [c0, h0]
  by_cases c1 : q = 160
  · rw [c1, h1]
  by_cases c2 : q = 167
  · rw [c2, h2]
  by_cases c5 : q = 168
  · rw [c5, h5]
  by_cases c7 : q = 174
  · rw [c7, h7]
  exact h q c0 c1 c2 c5 c7
theorem sm_up159 {p2 : Nat} : va_up (hSM Θ p f0 f7 f8 f4) 159 (.inr (12, o12 Θ p2)) = hSM Θ p2 f0 f7 f8 f4 := sm_ext rfl rfl rfl rfl rfl (fun q a b c e f => by rw [up_ne a, sm_el a b c e f, sm_el a b c e f])
theorem sm_up160 {g : Nat → Int32} : va_up (hSM Θ p f0 f7 f8 f4) 160 (iA Θ 0 1468 g) = hSM Θ p g f7 f8 f4 := sm_ext rfl rfl rfl rfl rfl (fun q a b c e f => by rw [up_ne b, sm_el a b c e f, sm_el a b c e f])
theorem sm_up167 {g : Nat → Int32} : va_up (hSM Θ p f0 f7 f8 f4) 167 (iA Θ 1 13 g) = hSM Θ p f0 g f8 f4 := sm_ext rfl rfl rfl rfl rfl (fun q a b c e f => by rw [up_ne c, sm_el a b c e f, sm_el a b c e f])
theorem sm_up168 {g : Nat → Int32} : va_up (hSM Θ p f0 f7 f8 f4) 168 (iA Θ 0 4 g) = hSM Θ p f0 f7 g f4 := sm_ext rfl rfl rfl rfl rfl (fun q a b c e f => by rw [up_ne e, sm_el a b c e f, sm_el a b c e f])
theorem sm_up174 {g : Nat → Int32} : va_up (hSM Θ p f0 f7 f8 f4) 174 (iA Θ 0 4 g) = hSM Θ p f0 f7 f8 g := sm_ext rfl rfl rfl rfl rfl (fun q a b c e f => by rw [up_ne f, sm_el a b c e f, sm_el a b c e f])
theorem sm_fin : hSM Θ 23 (S0 160) (S0 167) (S0 168) (S0 174) = lay Θ S0 := sm_ext rfl rfl rfl rfl rfl (fun q a b c e f => sm_el a b c e f)
end Ms
section Mr
variable {d mc ms cl sl n p pc pc' j : Nat} {f0 f7 f8 f4 : Nat → Int32} {ls : LV} {st : List Value} {Q : QT}
theorem Q_put {p2 i : Nat} {t : FieldType} {v : Value} (hF : FP RX12 i 12 j t) (hd : Dc cX12_init pc (.putfield i) 3 pc') (hn : 159 < n) (hnr : narrow t v = v) (hft : fits t v = true) (hl0 : j < (o12 Θ p).length) (hset : (o12 Θ p).set j v = o12 Θ p2) (K : E Θ d mc ms yX12_init cX12_init 1 none cl sl n (hSM Θ p2 f0 f7 f8 f4) pc' ls st Q) : E Θ d mc ms yX12_init cX12_init 1 none cl sl n (hSM Θ p f0 f7 f8 f4) pc ls (v :: .ref (tb Θ + 159) :: st) Q := by
  refine E_putF (y := yX12_init) hF hd rfl hn rfl hnr hft hl0 ?_
  rw [hset, sm_up159]
  exact K
theorem Q_cast {x x0 : Int32} (hd : Dc cX12_init pc .castore 1 pc') (hn : 167 < n) (hx : x = nI j) (hj : j < 13) (hv : vp_nar .char x0 = x0) (K : E Θ d mc ms yX12_init cX12_init 1 none cl sl n (hSM Θ p f0 (upd f7 j x0) f8 f4) pc' ls st Q) : E Θ d mc ms yX12_init cX12_init 1 none cl sl n (hSM Θ p f0 f7 f8 f4) pc ls (.int x0 :: .int x :: .ref (tb Θ + 167) :: st) Q := by
  refine E_cast (k := 167) (j := j) hd hn rfl hx hj (by decide) ?_
  rw [hv, sm_up167]
  exact K
theorem Q_ia160 {x x0 : Int32} (hd : Dc cX12_init pc .iastore 1 pc') (hn : 160 < n) (hx : x = nI j) (hj : j < 1468) (K : E Θ d mc ms yX12_init cX12_init 1 none cl sl n (hSM Θ p (upd f0 j x0) f7 f8 f4) pc' ls st Q) : E Θ d mc ms yX12_init cX12_init 1 none cl sl n (hSM Θ p f0 f7 f8 f4) pc ls (.int x0 :: .int x :: .ref (tb Θ + 160) :: st) Q := by
  refine E_iast (k := 160) (j := j) hd hn rfl hx hj (by decide) ?_
  rw [sm_up160]
  exact K
theorem Q_ia168 {x x0 : Int32} (hd : Dc cX12_init pc .iastore 1 pc') (hn : 168 < n) (hx : x = nI j) (hj : j < 4) (K : E Θ d mc ms yX12_init cX12_init 1 none cl sl n (hSM Θ p f0 f7 (upd f8 j x0) f4) pc' ls st Q) : E Θ d mc ms yX12_init cX12_init 1 none cl sl n (hSM Θ p f0 f7 f8 f4) pc ls (.int x0 :: .int x :: .ref (tb Θ + 168) :: st) Q := by
  refine E_iast (k := 168) (j := j) hd hn rfl hx hj (by decide) ?_
  rw [sm_up168]
  exact K
theorem Q_ia174 {x x0 : Int32} (hd : Dc cX12_init pc .iastore 1 pc') (hn : 174 < n) (hx : x = nI j) (hj : j < 4) (K : E Θ d mc ms yX12_init cX12_init 1 none cl sl n (hSM Θ p f0 f7 f8 (upd f4 j x0)) pc' ls st Q) : E Θ d mc ms yX12_init cX12_init 1 none cl sl n (hSM Θ p f0 f7 f8 f4) pc ls (.int x0 :: .int x :: .ref (tb Θ + 174) :: st) Q := by
  refine E_iast (k := 174) (j := j) hd hn rfl hx hj (by decide) ?_
  rw [sm_up174]
  exact K
end Mr
set_option maxHeartbeats 4000000 in
theorem s_X12_init {d : Nat} {G : HP} {Q : HP → Prop} (hG : G 159 = .inr (12, o12 Θ 0)) (hGl : ∀ q, q < 159 → G q = lay Θ S0 q) (hq : Q (lay Θ S0)) : C Θ (d + 1) 23 6700 yX12_init cX12_init 1 none [.ref (tb Θ + 159)] 160 G (Qv Q) := by
  refine C_of rfl rfl (Nat.le_of_ble_eq_true rfl) ?_
  refine E.heap (G' := hSM Θ 0 (fun _ => 0) (fun _ => 0) (fun _ => 0) (fun _ => 0)) (fun q hq2 => ?_) ?_
  · by_cases c : q = 159
    · rw [c]; exact hG
    · rw [hGl q (by omega), sm_el c (by omega) (by omega) (by omega) (by omega)]
  refine E_aload_n dX12_init_0 rfl ?_
  refine E_objInit oX12_1 w_oi w_oc dX12_init_1 (Nat.le_of_ble_eq_true rfl) ?_
  refine E_aload_n dX12_init_4 rfl ?_
  refine E_sipush (v := 1468) dX12_init_5 (by decide) ?_
  refine I_newi (cl2 := 1) (sl2 := 1468) (n2 := 161) (len := 1468) dX12_init_8 rfl (by decide) rfl (Nat.le_of_ble_eq_true rfl) (Nat.le_of_ble_eq_true rfl) rfl rfl rfl ?_
  refine Q_put (p := 0) (p2 := 1) pX12_9 dX12_init_10 (by omega) rfl rfl (Nat.le_of_ble_eq_true rfl) rfl ?_
  refine E_aload_n dX12_init_13 rfl ?_
  refine E_sipush (v := 1468) dX12_init_14 (by decide) ?_
  refine I_newi (cl2 := 2) (sl2 := 2936) (n2 := 162) (len := 1468) dX12_init_17 rfl (by decide) rfl (Nat.le_of_ble_eq_true rfl) (Nat.le_of_ble_eq_true rfl) rfl rfl rfl ?_
  refine Q_put (p := 1) (p2 := 2) pX12_13 dX12_init_19 (by omega) rfl rfl (Nat.le_of_ble_eq_true rfl) rfl ?_
  refine E_aload_n dX12_init_22 rfl ?_
  refine E_sipush (v := 1468) dX12_init_23 (by decide) ?_
  refine I_newi (cl2 := 3) (sl2 := 4404) (n2 := 163) (len := 1468) dX12_init_26 rfl (by decide) rfl (Nat.le_of_ble_eq_true rfl) (Nat.le_of_ble_eq_true rfl) rfl rfl rfl ?_
  refine Q_put (p := 2) (p2 := 3) pX12_16 dX12_init_28 (by omega) rfl rfl (Nat.le_of_ble_eq_true rfl) rfl ?_
  refine E_aload_n dX12_init_31 rfl ?_
  refine E_sipush (v := 1468) dX12_init_32 (by decide) ?_
  refine I_newi (cl2 := 4) (sl2 := 5872) (n2 := 164) (len := 1468) dX12_init_35 rfl (by decide) rfl (Nat.le_of_ble_eq_true rfl) (Nat.le_of_ble_eq_true rfl) rfl rfl rfl ?_
  refine Q_put (p := 3) (p2 := 4) pX12_19 dX12_init_37 (by omega) rfl rfl (Nat.le_of_ble_eq_true rfl) rfl ?_
  refine E_aload_n dX12_init_40 rfl ?_
  refine E_bipush (v := 81) dX12_init_41 (by decide) ?_
  refine I_newz (cl2 := 5) (sl2 := 5953) (n2 := 165) (len := 81) dX12_init_43 rfl (by decide) rfl (Nat.le_of_ble_eq_true rfl) (Nat.le_of_ble_eq_true rfl) rfl rfl rfl ?_
  refine Q_put (p := 4) (p2 := 5) pX12_22 dX12_init_45 (by omega) rfl rfl (Nat.le_of_ble_eq_true rfl) rfl ?_
  refine E_aload_n dX12_init_48 rfl ?_
  refine E_bipush (v := 9) dX12_init_49 (by decide) ?_
  refine I_newi (cl2 := 6) (sl2 := 5962) (n2 := 166) (len := 9) dX12_init_51 rfl (by decide) rfl (Nat.le_of_ble_eq_true rfl) (Nat.le_of_ble_eq_true rfl) rfl rfl rfl ?_
  refine Q_put (p := 5) (p2 := 6) pX12_26 dX12_init_53 (by omega) rfl rfl (Nat.le_of_ble_eq_true rfl) rfl ?_
  refine E_aload_n dX12_init_56 rfl ?_
  refine E_bipush (v := 96) dX12_init_57 (by decide) ?_
  refine I_newi (cl2 := 7) (sl2 := 6058) (n2 := 167) (len := 96) dX12_init_59 rfl (by decide) rfl (Nat.le_of_ble_eq_true rfl) (Nat.le_of_ble_eq_true rfl) rfl rfl rfl ?_
  refine Q_put (p := 6) (p2 := 7) pX12_29 dX12_init_61 (by omega) rfl rfl (Nat.le_of_ble_eq_true rfl) rfl ?_
  refine E_aload_n dX12_init_64 rfl ?_
  refine E_bipush (v := 13) dX12_init_65 (by decide) ?_
  refine I_newc (cl2 := 8) (sl2 := 6071) (n2 := 168) (len := 13) dX12_init_67 rfl (by decide) rfl (Nat.le_of_ble_eq_true rfl) (Nat.le_of_ble_eq_true rfl) rfl rfl rfl ?_
  refine E_dup dX12_init_69 rfl ?_
  refine E_ic (v := 0) dX12_init_70 (by decide) ?_
  refine E_bipush (v := 115) dX12_init_71 (by decide) ?_
  refine Q_cast (j := 0) dX12_init_73 (by omega) rfl (by decide) (by decide) ?_
  refine E_dup dX12_init_74 rfl ?_
  refine E_ic (v := 1) dX12_init_75 (by decide) ?_
  refine E_bipush (v := 112) dX12_init_76 (by decide) ?_
  refine Q_cast (j := 1) dX12_init_78 (by omega) rfl (by decide) (by decide) ?_
  refine E_dup dX12_init_79 rfl ?_
  refine E_ic (v := 2) dX12_init_80 (by decide) ?_
  refine E_bipush (v := 101) dX12_init_81 (by decide) ?_
  refine Q_cast (j := 2) dX12_init_83 (by omega) rfl (by decide) (by decide) ?_
  refine E_dup dX12_init_84 rfl ?_
  refine E_ic (v := 3) dX12_init_85 (by decide) ?_
  refine E_bipush (v := 101) dX12_init_86 (by decide) ?_
  refine Q_cast (j := 3) dX12_init_88 (by omega) rfl (by decide) (by decide) ?_
  refine E_dup dX12_init_89 rfl ?_
  refine E_ic (v := 4) dX12_init_90 (by decide) ?_
  refine E_bipush (v := 99) dX12_init_91 (by decide) ?_
  refine Q_cast (j := 4) dX12_init_93 (by omega) rfl (by decide) (by decide) ?_
  refine E_dup dX12_init_94 rfl ?_
  refine E_ic (v := 5) dX12_init_95 (by decide) ?_
  refine E_bipush (v := 104) dX12_init_96 (by decide) ?_
  refine Q_cast (j := 5) dX12_init_98 (by omega) rfl (by decide) (by decide) ?_
  refine E_dup dX12_init_99 rfl ?_
  refine E_bipush (v := 6) dX12_init_100 (by decide) ?_
  refine E_bipush (v := 102) dX12_init_102 (by decide) ?_
  refine Q_cast (j := 6) dX12_init_104 (by omega) rfl (by decide) (by decide) ?_
  refine E_dup dX12_init_105 rfl ?_
  refine E_bipush (v := 7) dX12_init_106 (by decide) ?_
  refine E_bipush (v := 101) dX12_init_108 (by decide) ?_
  refine Q_cast (j := 7) dX12_init_110 (by omega) rfl (by decide) (by decide) ?_
  refine E_dup dX12_init_111 rfl ?_
  refine E_bipush (v := 8) dX12_init_112 (by decide) ?_
  refine E_bipush (v := 101) dX12_init_114 (by decide) ?_
  refine Q_cast (j := 8) dX12_init_116 (by omega) rfl (by decide) (by decide) ?_
  refine E_dup dX12_init_117 rfl ?_
  refine E_bipush (v := 9) dX12_init_118 (by decide) ?_
  refine E_bipush (v := 102) dX12_init_120 (by decide) ?_
  refine Q_cast (j := 9) dX12_init_122 (by omega) rfl (by decide) (by decide) ?_
  refine E_dup dX12_init_123 rfl ?_
  refine E_bipush (v := 10) dX12_init_124 (by decide) ?_
  refine E_bipush (v := 105) dX12_init_126 (by decide) ?_
  refine Q_cast (j := 10) dX12_init_128 (by omega) rfl (by decide) (by decide) ?_
  refine E_dup dX12_init_129 rfl ?_
  refine E_bipush (v := 11) dX12_init_130 (by decide) ?_
  refine E_bipush (v := 110) dX12_init_132 (by decide) ?_
  refine Q_cast (j := 11) dX12_init_134 (by omega) rfl (by decide) (by decide) ?_
  refine E_dup dX12_init_135 rfl ?_
  refine E_bipush (v := 12) dX12_init_136 (by decide) ?_
  refine E_bipush (v := 101) dX12_init_138 (by decide) ?_
  refine Q_cast (j := 12) dX12_init_140 (by omega) rfl (by decide) (by decide) ?_
  refine Q_put (p := 7) (p2 := 8) pX12_32 dX12_init_141 (by omega) rfl rfl (Nat.le_of_ble_eq_true rfl) rfl ?_
  refine E_aload_n dX12_init_144 rfl ?_
  refine E_ic (v := 4) dX12_init_145 (by decide) ?_
  refine I_newi (cl2 := 9) (sl2 := 6075) (n2 := 169) (len := 4) dX12_init_146 rfl (by decide) rfl (Nat.le_of_ble_eq_true rfl) (Nat.le_of_ble_eq_true rfl) rfl rfl rfl ?_
  refine E_dup dX12_init_148 rfl ?_
  refine E_ic (v := 0) dX12_init_149 (by decide) ?_
  refine E_ic (v := 0) dX12_init_150 (by decide) ?_
  refine Q_ia168 (j := 0) dX12_init_151 (by omega) rfl (by decide) ?_
  refine E_dup dX12_init_152 rfl ?_
  refine E_ic (v := 1) dX12_init_153 (by decide) ?_
  refine E_bipush (v := 6) dX12_init_154 (by decide) ?_
  refine Q_ia168 (j := 1) dX12_init_156 (by omega) rfl (by decide) ?_
  refine E_dup dX12_init_157 rfl ?_
  refine E_ic (v := 2) dX12_init_158 (by decide) ?_
  refine E_bipush (v := 9) dX12_init_159 (by decide) ?_
  refine Q_ia168 (j := 2) dX12_init_161 (by omega) rfl (by decide) ?_
  refine E_dup dX12_init_162 rfl ?_
  refine E_ic (v := 3) dX12_init_163 (by decide) ?_
  refine E_bipush (v := 13) dX12_init_164 (by decide) ?_
  refine Q_ia168 (j := 3) dX12_init_166 (by omega) rfl (by decide) ?_
  refine Q_put (p := 8) (p2 := 9) pX12_36 dX12_init_167 (by omega) rfl rfl (Nat.le_of_ble_eq_true rfl) rfl ?_
  refine E_aload_n dX12_init_170 rfl ?_
  refine E_bipush (v := 96) dX12_init_171 (by decide) ?_
  refine I_newi (cl2 := 10) (sl2 := 6171) (n2 := 170) (len := 96) dX12_init_173 rfl (by decide) rfl (Nat.le_of_ble_eq_true rfl) (Nat.le_of_ble_eq_true rfl) rfl rfl rfl ?_
  refine Q_put (p := 9) (p2 := 10) pX12_39 dX12_init_175 (by omega) rfl rfl (Nat.le_of_ble_eq_true rfl) rfl ?_
  refine E_aload_n dX12_init_178 rfl ?_
  refine E_bipush (v := 96) dX12_init_179 (by decide) ?_
  refine I_newi (cl2 := 11) (sl2 := 6267) (n2 := 171) (len := 96) dX12_init_181 rfl (by decide) rfl (Nat.le_of_ble_eq_true rfl) (Nat.le_of_ble_eq_true rfl) rfl rfl rfl ?_
  refine Q_put (p := 10) (p2 := 11) pX12_42 dX12_init_183 (by omega) rfl rfl (Nat.le_of_ble_eq_true rfl) rfl ?_
  refine E_aload_n dX12_init_186 rfl ?_
  refine E_bipush (v := 10) dX12_init_187 (by decide) ?_
  refine I_newz (cl2 := 12) (sl2 := 6277) (n2 := 172) (len := 10) dX12_init_189 rfl (by decide) rfl (Nat.le_of_ble_eq_true rfl) (Nat.le_of_ble_eq_true rfl) rfl rfl rfl ?_
  refine Q_put (p := 11) (p2 := 12) pX12_45 dX12_init_191 (by omega) rfl rfl (Nat.le_of_ble_eq_true rfl) rfl ?_
  refine E_aload_n dX12_init_194 rfl ?_
  refine E_bipush (v := 96) dX12_init_195 (by decide) ?_
  refine I_newi (cl2 := 13) (sl2 := 6373) (n2 := 173) (len := 96) dX12_init_197 rfl (by decide) rfl (Nat.le_of_ble_eq_true rfl) (Nat.le_of_ble_eq_true rfl) rfl rfl rfl ?_
  refine Q_put (p := 12) (p2 := 13) pX12_48 dX12_init_199 (by omega) rfl rfl (Nat.le_of_ble_eq_true rfl) rfl ?_
  refine E_aload_n dX12_init_202 rfl ?_
  refine E_ic (v := 4) dX12_init_203 (by decide) ?_
  refine I_newi (cl2 := 14) (sl2 := 6377) (n2 := 174) (len := 4) dX12_init_204 rfl (by decide) rfl (Nat.le_of_ble_eq_true rfl) (Nat.le_of_ble_eq_true rfl) rfl rfl rfl ?_
  refine Q_put (p := 13) (p2 := 14) pX12_51 dX12_init_206 (by omega) rfl rfl (Nat.le_of_ble_eq_true rfl) rfl ?_
  refine E_aload_n dX12_init_209 rfl ?_
  refine E_ic (v := 4) dX12_init_210 (by decide) ?_
  refine I_newi (cl2 := 15) (sl2 := 6381) (n2 := 175) (len := 4) dX12_init_211 rfl (by decide) rfl (Nat.le_of_ble_eq_true rfl) (Nat.le_of_ble_eq_true rfl) rfl rfl rfl ?_
  refine E_dup dX12_init_213 rfl ?_
  refine E_ic (v := 0) dX12_init_214 (by decide) ?_
  refine E_ic (v := (-1)) dX12_init_215 (by decide) ?_
  refine Q_ia174 (j := 0) dX12_init_216 (by omega) rfl (by decide) ?_
  refine E_dup dX12_init_217 rfl ?_
  refine E_ic (v := 1) dX12_init_218 (by decide) ?_
  refine E_ic (v := (-1)) dX12_init_219 (by decide) ?_
  refine Q_ia174 (j := 1) dX12_init_220 (by omega) rfl (by decide) ?_
  refine E_dup dX12_init_221 rfl ?_
  refine E_ic (v := 2) dX12_init_222 (by decide) ?_
  refine E_ic (v := (-1)) dX12_init_223 (by decide) ?_
  refine Q_ia174 (j := 2) dX12_init_224 (by omega) rfl (by decide) ?_
  refine E_dup dX12_init_225 rfl ?_
  refine E_ic (v := 3) dX12_init_226 (by decide) ?_
  refine E_ic (v := (-1)) dX12_init_227 (by decide) ?_
  refine Q_ia174 (j := 3) dX12_init_228 (by omega) rfl (by decide) ?_
  refine Q_put (p := 14) (p2 := 15) pX12_54 dX12_init_229 (by omega) rfl rfl (Nat.le_of_ble_eq_true rfl) rfl ?_
  refine E_aload_n dX12_init_232 rfl ?_
  refine E_ic (v := 4) dX12_init_233 (by decide) ?_
  refine I_newi (cl2 := 16) (sl2 := 6385) (n2 := 176) (len := 4) dX12_init_234 rfl (by decide) rfl (Nat.le_of_ble_eq_true rfl) (Nat.le_of_ble_eq_true rfl) rfl rfl rfl ?_
  refine Q_put (p := 15) (p2 := 16) pX12_57 dX12_init_236 (by omega) rfl rfl (Nat.le_of_ble_eq_true rfl) rfl ?_
  refine E_aload_n dX12_init_239 rfl ?_
  refine E_bipush (v := 96) dX12_init_240 (by decide) ?_
  refine I_newi (cl2 := 17) (sl2 := 6481) (n2 := 177) (len := 96) dX12_init_242 rfl (by decide) rfl (Nat.le_of_ble_eq_true rfl) (Nat.le_of_ble_eq_true rfl) rfl rfl rfl ?_
  refine Q_put (p := 16) (p2 := 17) pX12_60 dX12_init_244 (by omega) rfl rfl (Nat.le_of_ble_eq_true rfl) rfl ?_
  refine E_aload_n dX12_init_247 rfl ?_
  refine E_ic (v := 5) dX12_init_248 (by decide) ?_
  refine I_newi (cl2 := 18) (sl2 := 6486) (n2 := 178) (len := 5) dX12_init_249 rfl (by decide) rfl (Nat.le_of_ble_eq_true rfl) (Nat.le_of_ble_eq_true rfl) rfl rfl rfl ?_
  refine Q_put (p := 17) (p2 := 18) pX12_63 dX12_init_251 (by omega) rfl rfl (Nat.le_of_ble_eq_true rfl) rfl ?_
  refine E_aload_n dX12_init_254 rfl ?_
  refine E_ic (v := 5) dX12_init_255 (by decide) ?_
  refine I_newi (cl2 := 19) (sl2 := 6491) (n2 := 179) (len := 5) dX12_init_256 rfl (by decide) rfl (Nat.le_of_ble_eq_true rfl) (Nat.le_of_ble_eq_true rfl) rfl rfl rfl ?_
  refine Q_put (p := 18) (p2 := 19) pX12_66 dX12_init_258 (by omega) rfl rfl (Nat.le_of_ble_eq_true rfl) rfl ?_
  refine E_aload_n dX12_init_261 rfl ?_
  refine E_ic (v := 5) dX12_init_262 (by decide) ?_
  refine I_newi (cl2 := 20) (sl2 := 6496) (n2 := 180) (len := 5) dX12_init_263 rfl (by decide) rfl (Nat.le_of_ble_eq_true rfl) (Nat.le_of_ble_eq_true rfl) rfl rfl rfl ?_
  refine Q_put (p := 19) (p2 := 20) pX12_69 dX12_init_265 (by omega) rfl rfl (Nat.le_of_ble_eq_true rfl) rfl ?_
  refine E_aload_n dX12_init_268 rfl ?_
  refine E_bipush (v := 120) dX12_init_269 (by decide) ?_
  refine I_newi (cl2 := 21) (sl2 := 6616) (n2 := 181) (len := 120) dX12_init_271 rfl (by decide) rfl (Nat.le_of_ble_eq_true rfl) (Nat.le_of_ble_eq_true rfl) rfl rfl rfl ?_
  refine Q_put (p := 20) (p2 := 21) pX12_72 dX12_init_273 (by omega) rfl rfl (Nat.le_of_ble_eq_true rfl) rfl ?_
  refine E_aload_n dX12_init_276 rfl ?_
  refine E_bipush (v := 24) dX12_init_277 (by decide) ?_
  refine I_newi (cl2 := 22) (sl2 := 6640) (n2 := 182) (len := 24) dX12_init_279 rfl (by decide) rfl (Nat.le_of_ble_eq_true rfl) (Nat.le_of_ble_eq_true rfl) rfl rfl rfl ?_
  refine Q_put (p := 21) (p2 := 22) pX12_75 dX12_init_281 (by omega) rfl rfl (Nat.le_of_ble_eq_true rfl) rfl ?_
  refine E_aload_n dX12_init_284 rfl ?_
  refine E_bipush (v := 60) dX12_init_285 (by decide) ?_
  refine I_newi (cl2 := 23) (sl2 := 6700) (n2 := 183) (len := 60) dX12_init_287 rfl (by decide) rfl (Nat.le_of_ble_eq_true rfl) (Nat.le_of_ble_eq_true rfl) rfl rfl rfl ?_
  refine Q_put (p := 22) (p2 := 23) pX12_78 dX12_init_289 (by omega) rfl rfl (Nat.le_of_ble_eq_true rfl) rfl ?_
  refine E_aload_n dX12_init_292 rfl ?_
  refine E_get (k := 159) (v := .ref (tb Θ + 160)) fX12_9 dX12_init_293 (by omega) rfl rfl ?_
  refine E_ic (v := 0) dX12_init_296 (by decide) ?_
  refine E_ic (v := 1) dX12_init_297 (by decide) ?_
  refine Q_ia160 (j := 0) dX12_init_298 (by omega) rfl (by decide) ?_
  refine E_aload_n dX12_init_299 rfl ?_
  refine E_get (k := 159) (v := .ref (tb Θ + 160)) fX12_9 dX12_init_300 (by omega) rfl rfl ?_
  refine E_ic (v := 3) dX12_init_303 (by decide) ?_
  refine E_ic (v := 1) dX12_init_304 (by decide) ?_
  refine Q_ia160 (j := 3) dX12_init_305 (by omega) rfl (by decide) ?_
  refine E_aload_n dX12_init_306 rfl ?_
  refine E_get (k := 159) (v := .ref (tb Θ + 160)) fX12_9 dX12_init_307 (by omega) rfl rfl ?_
  refine E_ic (v := 4) dX12_init_310 (by decide) ?_
  refine E_bipush (v := 40) dX12_init_311 (by decide) ?_
  refine Q_ia160 (j := 4) dX12_init_313 (by omega) rfl (by decide) ?_
  refine E_vret dX12_init_314 rfl rfl ?_
  exact (congrArg Q (sm_fin (Θ := Θ))).mpr hq
end Mi
