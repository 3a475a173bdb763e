/-! the class's kinds at their calls; passengers; worlds -/
theorem sp_0 {x z : Int32} : x = spF (nI 0) x z := by rw [show nI 0 = (0 : Int32) from rfl]; simp [spF]
theorem sp_1 {x z : Int32} : x + (if 0 < z then 2 else 0) = spF (nI 1) x z := by
  rw [show nI 1 = (1 : Int32) from rfl, spF, if_pos rfl]
  split <;> simp
theorem sp_2 {x z : Int32} : x + 3 = spF (nI 2) x z := by rw [show nI 2 = (2 : Int32) from rfl]; simp [spF]
theorem sp_3 {x z : Int32} : 2 * (x + (if 0 < z then 2 else 0)) = spF (nI 3) x z := by
  rw [show nI 3 = (3 : Int32) from rfl]
  simp only [spF, if_neg (show ¬ (3 : Int32) = 1 by decide), if_neg (show ¬ (3 : Int32) = 2 by decide), if_pos rfl]
  split <;> simp
theorem sp_4 {x z : Int32} : 0 = spF (nI 4) x z := by rw [show nI 4 = (4 : Int32) from rfl]; simp [spF]
theorem sp_5 {x z : Int32} : x = spF (nI 5) x z := by rw [show nI 5 = (5 : Int32) from rfl]; simp [spF]
theorem wo_0 {x : Int32} : x = woF (nI 0) x := by rw [show nI 0 = (0 : Int32) from rfl]; simp [woF]
theorem wo_1 {x : Int32} : x + 4 = woF (nI 1) x := by rw [show nI 1 = (1 : Int32) from rfl]; simp [woF]
theorem wo_2 {x : Int32} : 120 - x = woF (nI 2) x := by rw [show nI 2 = (2 : Int32) from rfl]; simp [woF]
theorem wo_3 {x : Int32} : 2 * (x + 4) = woF (nI 3) x := by rw [show nI 3 = (3 : Int32) from rfl]; simp [woF]
theorem wo_fin : ∀ t : Fin 100, (120 : Int32) - nI t.val - 6 = woF (nI 4) (nI t.val) := by decide +kernel
theorem wo_4 {t : Nat} (ht : t < 100) : (120 : Int32) - nI t - 6 = woF (nI 4) (nI t) := wo_fin ⟨t, ht⟩
theorem wo_5 {x : Int32} : 3 = woF (nI 5) x := by rw [show nI 5 = (5 : Int32) from rfl]; simp [woF]
theorem ht_0 {x : Int32} : x = htF (nI 0) x := by rw [show nI 0 = (0 : Int32) from rfl]; simp [htF]
theorem ht_1 {x : Int32} : 2 * x = htF (nI 1) x := by rw [show nI 1 = (1 : Int32) from rfl]; simp [htF]
theorem ht_2 {x : Int32} : x / 2 = htF (nI 2) x := by rw [show nI 2 = (2 : Int32) from rfl]; simp [htF]
theorem ht_3 {a : Nat} (ha : a < 7) : (if 2 * nI a - 1 < 0 then 0 else 2 * nI a - 1) = htF (nI 3) (nI a) := ht_tw ⟨a, ha⟩
theorem ht_4 {x : Int32} : x / 2 = htF (nI 4) x := by rw [show nI 4 = (4 : Int32) from rfl]; simp [htF]
theorem ht_5 {x : Int32} : 0 = htF (nI 5) x := by rw [show nI 5 = (5 : Int32) from rfl]; simp [htF]
theorem sf_0 {x z : Int32} : (if x < z then x + 1 else if z < x then x - 1 else x) = shF (nI 0) x z := by rw [show nI 0 = (0 : Int32) from rfl]; simp [shF]
theorem sf_1 {x z : Int32} : (if x < z then x + 1 else if z < x then x - 1 else x) = shF (nI 1) x z := by rw [show nI 1 = (1 : Int32) from rfl]; simp [shF]
theorem sf_2 {a b : Nat} (ha : a < 7) (hb : b < 7) : (if (nI a - 3 : Int32) = nI b - 3 then (if (nI a - 3 : Int32) = 3 then -3 else nI a - 3 + 1) else if (nI a - 3 : Int32) < nI b - 3 then (if (nI a - 3 - 1 : Int32) < -3 then -3 else nI a - 3 - 1) else (if (3 : Int32) < nI a - 3 + 1 then 3 else nI a - 3 + 1)) = shF (nI 2) (nI a - 3) (nI b - 3) := sh_hi ⟨a, ha⟩ ⟨b, hb⟩
theorem sf_3 {x z : Int32} : z = shF (nI 3) x z := by rw [show nI 3 = (3 : Int32) from rfl]; simp [shF]
theorem sf_4 {x z : Int32} : x = shF (nI 4) x z := by rw [show nI 4 = (4 : Int32) from rfl]; simp [shF]
theorem sf_5 {x z : Int32} : x = shF (nI 5) x z := by rw [show nI 5 = (5 : Int32) from rfl]; simp [shF]
section Sites
variable {Θ : Th} {d mc ms : Nat} {y : MethodName} {cc : ByteArray} {nL : Nat} {ret : Option FieldType} {cl sl : Nat} {S : SS} {pc pc' : Nat} {ls : LV} {st : List Value} {Q : QT}
theorem E_back {n : Nat} {G : HP} {x z : Int32} (h : x = z) (K : E Θ d mc ms y cc nL ret cl sl n G pc ls (.int z :: st) Q) : E Θ d mc ms y cc nL ret cl sl n G pc ls (.int x :: st) Q := h ▸ K
theorem NV_X10_98 {c : Nat} {x z : Int32} (hc : c < 6) (hy : y.cls = RX10) (hd : Dc cc pc (.invokevirtual 98) 3 pc') (hst : (st.map fun v => v.category).sum ≤ 8) (K : E Θ (d + 2) mc ms y cc nL ret cl sl 183 (lay Θ S) pc' ls (.int (spF (nI c) x z) :: st) Q) : E Θ (d + 2) mc ms y cc nL ret cl sl 183 (lay Θ S) pc ls (.int z :: .int x :: .ref (tb Θ + (14 + c)) :: st) Q := by
  match c, hc with
  | 0, _ => exact E_V2i (hy.symm ▸ vX10_98_3) hd hst (by decide) (rfl : lay Θ S (14 + 0) = _) (s_X3_speaks (E_back sp_0 K))
  | 1, _ => exact E_V2i (hy.symm ▸ vX10_98_2) hd hst (by decide) (rfl : lay Θ S (14 + 1) = _) (s_X2_speaks (E_back sp_1 K))
  | 2, _ => exact E_V2i (hy.symm ▸ vX10_98_1) hd hst (by decide) (rfl : lay Θ S (14 + 2) = _) (s_X1_speaks (E_back sp_2 K))
  | 3, _ => exact E_V2i (hy.symm ▸ vX10_98_9) hd hst (by decide) (rfl : lay Θ S (14 + 3) = _) (s_X9_speaks (E_back sp_3 K))
  | 4, _ => exact E_V2i (hy.symm ▸ vX10_98_6) hd hst (by decide) (rfl : lay Θ S (14 + 4) = _) (s_X6_speaks (E_back sp_4 K))
  | 5, _ => exact E_V2i (hy.symm ▸ vX10_98_0) hd hst (by decide) (rfl : lay Θ S (14 + 5) = _) (s_X3_speaks (E_back sp_5 K))
  | k + 6, h => exact absurd h (by omega)
theorem NV_X10_147 {c : Nat} {a b : Nat} (ha : a < 7) (hb : b < 7) (hc : c < 6) (hy : y.cls = RX10) (hd : Dc cc pc (.invokevirtual 147) 3 pc') (hst : (st.map fun v => v.category).sum ≤ 8) (K : E Θ (d + 2) mc ms y cc nL ret cl sl 183 (lay Θ S) pc' ls (.int (shF (nI c) (nI a - 3) (nI b - 3)) :: st) Q) : E Θ (d + 2) mc ms y cc nL ret cl sl 183 (lay Θ S) pc ls (.int (nI b - 3) :: .int (nI a - 3) :: .ref (tb Θ + (14 + c)) :: st) Q := by
  match c, hc with
  | 0, _ => exact E_V2i (hy.symm ▸ vX10_147_3) hd hst (by decide) (rfl : lay Θ S (14 + 0) = _) (s_X3_shifts (E_back sf_0 K))
  | 1, _ => exact E_V2i (hy.symm ▸ vX10_147_2) hd hst (by decide) (rfl : lay Θ S (14 + 1) = _) (s_X3_shifts (E_back sf_1 K))
  | 2, _ => exact E_V2i (hy.symm ▸ vX10_147_1) hd hst (by decide) (rfl : lay Θ S (14 + 2) = _) (s_X1_shifts (E_back (sf_2 ha hb) K))
  | 3, _ => exact E_V2i (hy.symm ▸ vX10_147_9) hd hst (by decide) (rfl : lay Θ S (14 + 3) = _) (s_X9_shifts (E_back sf_3 K))
  | 4, _ => exact E_V2i (hy.symm ▸ vX10_147_6) hd hst (by decide) (rfl : lay Θ S (14 + 4) = _) (s_X6_shifts (E_back sf_4 K))
  | 5, _ => exact E_V2i (hy.symm ▸ vX10_147_0) hd hst (by decide) (rfl : lay Θ S (14 + 5) = _) (s_X0_shifts (E_back sf_5 K))
  | k + 6, h => exact absurd h (by omega)
theorem NV_X11_125 {c : Nat} (hc : c < 6) (hy : y.cls = RX11) (hd : Dc cc pc (.invokevirtual 125) 3 pc') (hst : (st.map fun v => v.category).sum ≤ 8) (K : E Θ (d + 1) mc ms y cc nL ret cl sl 183 (lay Θ S) pc' ls (.int (nI c) :: st) Q) : E Θ (d + 1) mc ms y cc nL ret cl sl 183 (lay Θ S) pc ls (.ref (tb Θ + (14 + c)) :: st) Q := by
  match c, hc with
  | 0, _ => exact E_V0i (hy.symm ▸ vX11_125_3) hd hst (by decide) (rfl : lay Θ S (14 + 0) = _) (s_X3_kind (E_back rfl K))
  | 1, _ => exact E_V0i (hy.symm ▸ vX11_125_2) hd hst (by decide) (rfl : lay Θ S (14 + 1) = _) (s_X2_kind (E_back rfl K))
  | 2, _ => exact E_V0i (hy.symm ▸ vX11_125_1) hd hst (by decide) (rfl : lay Θ S (14 + 2) = _) (s_X1_kind (E_back rfl K))
  | 3, _ => exact E_V0i (hy.symm ▸ vX11_125_9) hd hst (by decide) (rfl : lay Θ S (14 + 3) = _) (s_X9_kind (E_back rfl K))
  | 4, _ => exact E_V0i (hy.symm ▸ vX11_125_6) hd hst (by decide) (rfl : lay Θ S (14 + 4) = _) (s_X6_kind (E_back rfl K))
  | 5, _ => exact E_V0i (hy.symm ▸ vX11_125_0) hd hst (by decide) (rfl : lay Θ S (14 + 5) = _) (s_X0_kind (E_back rfl K))
  | k + 6, h => exact absurd h (by omega)
theorem NV_X11_135 {c : Nat} {t : Nat} (ht : t < 100) (hc : c < 6) (hy : y.cls = RX11) (hd : Dc cc pc (.invokevirtual 135) 3 pc') (hst : (st.map fun v => v.category).sum ≤ 8) (K : E Θ (d + 2) mc ms y cc nL ret cl sl 183 (lay Θ S) pc' ls (.int (woF (nI c) (nI t)) :: st) Q) : E Θ (d + 2) mc ms y cc nL ret cl sl 183 (lay Θ S) pc ls (.int (nI t) :: .ref (tb Θ + (14 + c)) :: st) Q := by
  match c, hc with
  | 0, _ => exact E_V1i (hy.symm ▸ vX11_135_3) hd hst (by decide) (rfl : lay Θ S (14 + 0) = _) (s_X3_worth (E_back wo_0 K))
  | 1, _ => exact E_V1i (hy.symm ▸ vX11_135_2) hd hst (by decide) (rfl : lay Θ S (14 + 1) = _) (s_X2_worth (E_back wo_1 K))
  | 2, _ => exact E_V1i (hy.symm ▸ vX11_135_1) hd hst (by decide) (rfl : lay Θ S (14 + 2) = _) (s_X1_worth (E_back wo_2 K))
  | 3, _ => exact E_V1i (hy.symm ▸ vX11_135_9) hd hst (by decide) (rfl : lay Θ S (14 + 3) = _) (s_X9_worth (E_back wo_3 K))
  | 4, _ => exact E_V1i (hy.symm ▸ vX11_135_6) hd hst (by decide) (rfl : lay Θ S (14 + 4) = _) (s_X6_worth (E_back (wo_4 ht) K))
  | 5, _ => exact E_V1i (hy.symm ▸ vX11_135_0) hd hst (by decide) (rfl : lay Θ S (14 + 5) = _) (s_X0_worth (E_back wo_5 K))
  | k + 6, h => exact absurd h (by omega)
theorem NV_X11_199 {c : Nat} {a : Nat} (ha : a < 7) (hc : c < 6) (hy : y.cls = RX11) (hd : Dc cc pc (.invokevirtual 199) 3 pc') (hst : (st.map fun v => v.category).sum ≤ 8) (K : E Θ (d + 2) mc ms y cc nL ret cl sl 183 (lay Θ S) pc' ls (.int (htF (nI c) (nI a)) :: st) Q) : E Θ (d + 2) mc ms y cc nL ret cl sl 183 (lay Θ S) pc ls (.int (nI a) :: .ref (tb Θ + (14 + c)) :: st) Q := by
  match c, hc with
  | 0, _ => exact E_V1i (hy.symm ▸ vX11_199_3) hd hst (by decide) (rfl : lay Θ S (14 + 0) = _) (s_X3_heats (E_back ht_0 K))
  | 1, _ => exact E_V1i (hy.symm ▸ vX11_199_2) hd hst (by decide) (rfl : lay Θ S (14 + 1) = _) (s_X2_heats (E_back ht_1 K))
  | 2, _ => exact E_V1i (hy.symm ▸ vX11_199_1) hd hst (by decide) (rfl : lay Θ S (14 + 2) = _) (s_X1_heats (E_back ht_2 K))
  | 3, _ => exact E_V1i (hy.symm ▸ vX11_199_9) hd hst (by decide) (rfl : lay Θ S (14 + 3) = _) (s_X9_heats (E_back (ht_3 ha) K))
  | 4, _ => exact E_V1i (hy.symm ▸ vX11_199_6) hd hst (by decide) (rfl : lay Θ S (14 + 4) = _) (s_X1_heats (E_back ht_4 K))
  | 5, _ => exact E_V1i (hy.symm ▸ vX11_199_0) hd hst (by decide) (rfl : lay Θ S (14 + 5) = _) (s_X0_heats (E_back ht_5 K))
  | k + 6, h => exact absurd h (by omega)
theorem NV_X11_202 {c : Nat} {a b : Nat} (ha : a < 7) (hb : b < 7) (hc : c < 6) (hy : y.cls = RX11) (hd : Dc cc pc (.invokevirtual 202) 3 pc') (hst : (st.map fun v => v.category).sum ≤ 8) (K : E Θ (d + 2) mc ms y cc nL ret cl sl 183 (lay Θ S) pc' ls (.int (shF (nI c) (nI a - 3) (nI b - 3)) :: st) Q) : E Θ (d + 2) mc ms y cc nL ret cl sl 183 (lay Θ S) pc ls (.int (nI b - 3) :: .int (nI a - 3) :: .ref (tb Θ + (14 + c)) :: st) Q := by
  match c, hc with
  | 0, _ => exact E_V2i (hy.symm ▸ vX11_202_3) hd hst (by decide) (rfl : lay Θ S (14 + 0) = _) (s_X3_shifts (E_back sf_0 K))
  | 1, _ => exact E_V2i (hy.symm ▸ vX11_202_2) hd hst (by decide) (rfl : lay Θ S (14 + 1) = _) (s_X3_shifts (E_back sf_1 K))
  | 2, _ => exact E_V2i (hy.symm ▸ vX11_202_1) hd hst (by decide) (rfl : lay Θ S (14 + 2) = _) (s_X1_shifts (E_back (sf_2 ha hb) K))
  | 3, _ => exact E_V2i (hy.symm ▸ vX11_202_9) hd hst (by decide) (rfl : lay Θ S (14 + 3) = _) (s_X9_shifts (E_back sf_3 K))
  | 4, _ => exact E_V2i (hy.symm ▸ vX11_202_6) hd hst (by decide) (rfl : lay Θ S (14 + 4) = _) (s_X6_shifts (E_back sf_4 K))
  | 5, _ => exact E_V2i (hy.symm ▸ vX11_202_0) hd hst (by decide) (rfl : lay Θ S (14 + 5) = _) (s_X0_shifts (E_back sf_5 K))
  | k + 6, h => exact absurd h (by omega)
theorem NV_X4_44 {c : Nat} {a : Nat} (ha : a < 7) (hc : c < 6) (hy : y.cls = RX4) (hd : Dc cc pc (.invokevirtual 44) 3 pc') (hst : (st.map fun v => v.category).sum ≤ 8) (K : E Θ (d + 2) mc ms y cc nL ret cl sl 183 (lay Θ S) pc' ls (.int (htF (nI c) (nI a)) :: st) Q) : E Θ (d + 2) mc ms y cc nL ret cl sl 183 (lay Θ S) pc ls (.int (nI a) :: .ref (tb Θ + (14 + c)) :: st) Q := by
  match c, hc with
  | 0, _ => exact E_V1i (hy.symm ▸ vX4_44_3) hd hst (by decide) (rfl : lay Θ S (14 + 0) = _) (s_X3_heats (E_back ht_0 K))
  | 1, _ => exact E_V1i (hy.symm ▸ vX4_44_2) hd hst (by decide) (rfl : lay Θ S (14 + 1) = _) (s_X2_heats (E_back ht_1 K))
  | 2, _ => exact E_V1i (hy.symm ▸ vX4_44_1) hd hst (by decide) (rfl : lay Θ S (14 + 2) = _) (s_X1_heats (E_back ht_2 K))
  | 3, _ => exact E_V1i (hy.symm ▸ vX4_44_9) hd hst (by decide) (rfl : lay Θ S (14 + 3) = _) (s_X9_heats (E_back (ht_3 ha) K))
  | 4, _ => exact E_V1i (hy.symm ▸ vX4_44_6) hd hst (by decide) (rfl : lay Θ S (14 + 4) = _) (s_X1_heats (E_back ht_4 K))
  | 5, _ => exact E_V1i (hy.symm ▸ vX4_44_0) hd hst (by decide) (rfl : lay Θ S (14 + 5) = _) (s_X0_heats (E_back ht_5 K))
  | k + 6, h => exact absurd h (by omega)
end Sites
