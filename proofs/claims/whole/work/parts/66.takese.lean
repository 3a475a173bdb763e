/-! the reference's loop over an expression -/
theorem MKr.val {S : SS} {b : Nat → Int32} {n s e : Nat} {t : Int32} (h : MKr S b s e t) (ht : TkO b n s e t) (hs : isSg t) : S 159 12 = t := by
  rw [h.2.2.2.2.2.1 hs.1 hs.2.1 hs.2.2]
  exact ((ht.2.2.2.2.2.2 hs.1 hs.2.1 hs.2.2).1).symm
theorem sg_33 : isSg 33 := ⟨by decide, by decide, by decide⟩
theorem sg_40 : isSg 40 := ⟨by decide, by decide, by decide⟩
theorem sg_41 : isSg 41 := ⟨by decide, by decide, by decide⟩
theorem sg_is {t : Int32} (h : ¬ sgF t = 0) : isSg t := Decidable.not_not.mp (fun z => h (sg_no z))
theorem RPS.push {S : SS} {W Cd : List Int32} {w : Int32} (h : RPS S W Cd) : RPS (wr (wr S 170 W.length w) 159 21 (nI (W.length + 1))) (w :: W) Cd := by
  refine ⟨?_, ?_, ?_, ?_⟩
  · rw [wr_at, pk_us, List.length_cons]
  · rw [wr_at, pk_un (by decide), wr_ne (by decide)]; exact h.2.1
  · rw [wr_ne (by decide), wr_at]; exact h.2.2.1.push
  · rw [wr_ne (by decide), wr_ne (by decide)]; exact h.2.2.2
theorem RPS.gf {S S' : SS} {W Cd : List Int32} (h : RPS S W Cd) (hf : GFr S S') : RPS S' W Cd := h.g (hf.1 21 (by omega)) (hf.1 18 (by omega)) (hf.2 170 (by omega)) (hf.2 169 (by omega))
def teO (S : SS) (te : Nat → Bool) (par : Nat) : Prop := ∀ q, q ≤ par → S 171 q = if te q then 1 else 0
theorem nI_dec {p : Nat} (h : 0 < p) : nI p + -1 = nI (p - 1) := by
  obtain ⟨q, rfl⟩ : ∃ q, p = q + 1 := ⟨p - 1, by omega⟩
  rw [← Int32.sub_eq_add_neg]
  exact nI_pred q
section Ey
variable {Θ : Th} {d : Nat} {S : SS} {b : Nat → Int32} {n : Nat}
theorem t66_X12 {Q : Int32 → HP → Prop} (hT : MT S b n) (hb : byOk b n) (hn : n ≤ 96) {s e : Nat} {t : Int32} (hk : MKr S b s e t) (hto : TkO b n s e t) {W Cd : List Int32} (hR : RPS S W Cd) (hW : W.length < 96) (hs : isSg t) {x1 x2 x3 : Int32} (K : ∀ S', MKr S' b (nxS b n e) (nxE b n e) (nxK b n e t) → RPS S' (-10 :: W) Cd → S' 159 19 = S 159 19 → S' 171 = S 171 → PFr S S' → E Θ (d + 3) 0 0 yX12_takesE cX12_takesE 5 (some .boolean) 0 0 183 (lay Θ S') 28 [(3, .int x3), (2, .int (nI (nnF (-10 :: W)))), (1, .int x1), (0, .ref (tb Θ + 159))] [] (Qi Q)) : E Θ (d + 3) 0 0 yX12_takesE cX12_takesE 5 (some .boolean) 0 0 183 (lay Θ S) 66 [(3, .int x3), (2, .int x2), (1, .int x1), (0, .ref (tb Θ + 159))] [] (Qi Q) := by
  refine E_aload_n dX12_takesE_66 rfl ?_
  refine L_get fX12_42 dX12_takesE_67 (by decide) sh_159 rfl ?_
  refine E_aload_n dX12_takesE_70 rfl ?_
  refine L_get fX12_237 dX12_takesE_71 (by decide) sh_159 rfl ?_
  rw [hR.1]
  refine E_bipush (v := (-10)) dX12_takesE_74 (by decide) ?_
  refine L_iast (j := W.length) dX12_takesE_76 (by decide) sh_170 rfl (by omega) (by decide) ?_
  refine E_aload_n dX12_takesE_77 rfl ?_
  refine E_dup dX12_takesE_78 rfl ?_
  refine L_get fX12_237 dX12_takesE_79 (by decide) sh_159 rfl ?_
  rw [wr_ne (by decide), hR.1]
  refine E_ic (v := 1) dX12_takesE_82 (by decide) ?_
  refine E_iadd dX12_takesE_83 ?_
  rw [nI_1]
  refine L_puti fX12_237 dX12_takesE_84 (by decide) sh_159 (Nat.le_of_ble_eq_true rfl) rfl ?_
  refine E_iinc (v := 1) dX12_takesE_87 rfl (by decide) (by decide) ?_
  refine E_aload_n dX12_takesE_90 rfl ?_
  have f1 : PFr S (wr (wr S 170 W.length (-10)) 159 21 (nI (W.length + 1))) := (PFr.w2 (Or.inr (Or.inl rfl))).tr (PFr.w (Or.inr (Or.inr rfl)))
  have k1 : MKr (wr (wr S 170 W.length (-10)) 159 21 (nI (W.length + 1))) b s e t := hk.sf (fun j h1 h2 => by rw [wr_at, pk_un (by omega), wr_ne (by decide)])
  refine E_V0v vX12_234_12 dX12_takesE_91 (Nat.le_of_ble_eq_true rfl) (by decide) (sh_159 _) (s_X12_go (hT.pf f1) hb hn hto.2.1 k1.1 (k1.en hs.1 hs.2.1) (fun S90 k90 f90 => ?_))
  refine E_goto dX12_takesE_94 ?_
  refine E_aload_n dX12_takesE_172 rfl ?_
  refine E_V0i vX12_259_12 dX12_takesE_173 (Nat.le_of_ble_eq_true rfl) (by decide) (sh_159 _) (s_X12_notsOpen (hR.push.gf f90).1 (hR.push.gf f90).2.2.1 (by simp only [List.length_cons]; omega) ?_)
  refine E_istore_n dX12_takesE_176 (by decide) ?_
  refine E_goto dX12_takesE_177 ?_
  refine E.loc (by exact ⟨rfl, rfl, rfl, rfl, trivial⟩) (K S90 k90 (hR.push.gf f90) ?_ ?_ (PFr.tr ((PFr.w2 (Or.inr (Or.inl rfl))).tr (PFr.w (Or.inr (Or.inr rfl)))) f90.p))
  · rw [f90.1 19 (by omega), wr_at, pk_un (by decide), wr_ne (by decide)]
  · rw [f90.2 171 (by omega), wr_ne (by decide), wr_ne (by decide)]
theorem t120_X12 {Q : Int32 → HP → Prop} (hT : MT S b n) (hb : byOk b n) (hn : n ≤ 96) {s e : Nat} {t : Int32} (hk : MKr S b s e t) (hto : TkO b n s e t) {W Cd : List Int32} (hR : RPS S W Cd) (hW : W.length < 96) (hs : isSg t) {par : Nat} (h8 : par < 8) {x1 x2 x3 : Int32} (hx1 : x1 = nI par) (K : ∀ S', MKr S' b (nxS b n e) (nxE b n e) (nxK b n e t) → RPS S' (-11 :: W) Cd → S' 159 19 = S 159 19 → S' 171 = upd (S 171) (par + 1) 0 → PFr S S' → E Θ (d + 3) 0 0 yX12_takesE cX12_takesE 5 (some .boolean) 0 0 183 (lay Θ S') 28 [(3, .int x3), (2, .int (nI (nnF (-11 :: W)))), (1, .int (nI (par + 1))), (0, .ref (tb Θ + 159))] [] (Qi Q)) : E Θ (d + 3) 0 0 yX12_takesE cX12_takesE 5 (some .boolean) 0 0 183 (lay Θ S) 120 [(3, .int x3), (2, .int x2), (1, .int x1), (0, .ref (tb Θ + 159))] [] (Qi Q) := by
  refine E_aload_n dX12_takesE_120 rfl ?_
  refine L_get fX12_42 dX12_takesE_121 (by decide) sh_159 rfl ?_
  refine E_aload_n dX12_takesE_124 rfl ?_
  refine L_get fX12_237 dX12_takesE_125 (by decide) sh_159 rfl ?_
  rw [hR.1]
  refine E_bipush (v := (-11)) dX12_takesE_128 (by decide) ?_
  refine L_iast (j := W.length) dX12_takesE_130 (by decide) sh_170 rfl (by omega) (by decide) ?_
  refine E_aload_n dX12_takesE_131 rfl ?_
  refine E_dup dX12_takesE_132 rfl ?_
  refine L_get fX12_237 dX12_takesE_133 (by decide) sh_159 rfl ?_
  rw [wr_ne (by decide), hR.1]
  refine E_ic (v := 1) dX12_takesE_136 (by decide) ?_
  refine E_iadd dX12_takesE_137 ?_
  rw [nI_1]
  refine L_puti fX12_237 dX12_takesE_138 (by decide) sh_159 (Nat.le_of_ble_eq_true rfl) rfl ?_
  refine E_iinc (v := 1) dX12_takesE_141 rfl (by decide) (by decide) ?_
  refine E_aload_n dX12_takesE_144 rfl ?_
  refine L_get fX12_45 dX12_takesE_145 (by decide) sh_159 rfl ?_
  refine E_iload_n dX12_takesE_148 rfl ?_
  refine E_ic (v := 0) dX12_takesE_149 (by decide) ?_
  refine L_zast (j := (par + 1)) dX12_takesE_150 (by decide) sh_171 (by rw [hx1]; exact nI_1 par) (by omega) (by decide) ?_
  rw [show vp_nar .boolean 0 = 0 from rfl]
  refine E_aload_n dX12_takesE_151 rfl ?_
  have f1 : PFr S (wr (wr (wr S 170 W.length (-11)) 159 21 (nI (W.length + 1))) 171 (par + 1) 0) := PFr.tr ((PFr.w2 (Or.inr (Or.inl rfl))).tr (PFr.w (Or.inr (Or.inr rfl)))) (PFr.w2 (Or.inr (Or.inr rfl)))
  have k1 : MKr (wr (wr (wr S 170 W.length (-11)) 159 21 (nI (W.length + 1))) 171 (par + 1) 0) b s e t := hk.sf (fun j h1 h2 => by rw [wr_ne (by decide), wr_at, pk_un (by omega), wr_ne (by decide)])
  have r1 : RPS (wr (wr (wr S 170 W.length (-11)) 159 21 (nI (W.length + 1))) 171 (par + 1) 0) (-11 :: W) Cd := hR.push.g (by rw [wr_ne (by decide)]) (by rw [wr_ne (by decide)]) (by rw [wr_ne (by decide)]) (by rw [wr_ne (by decide)])
  refine E_V0v vX12_234_12 dX12_takesE_152 (Nat.le_of_ble_eq_true rfl) (by decide) (sh_159 _) (s_X12_go (hT.pf f1) hb hn hto.2.1 k1.1 (k1.en hs.1 hs.2.1) (fun S90 k90 f90 => ?_))
  refine E_goto dX12_takesE_155 ?_
  refine E_aload_n dX12_takesE_172 rfl ?_
  refine E_V0i vX12_259_12 dX12_takesE_173 (Nat.le_of_ble_eq_true rfl) (by decide) (sh_159 _) (s_X12_notsOpen (r1.gf f90).1 (r1.gf f90).2.2.1 (by simp only [List.length_cons]; omega) ?_)
  refine E_istore_n dX12_takesE_176 (by decide) ?_
  refine E_goto dX12_takesE_177 ?_
  rw [hx1, show nI par + 1 = nI (par + 1) from nI_1 par]
  refine E.loc (by exact ⟨rfl, rfl, rfl, rfl, trivial⟩) (K S90 k90 (r1.gf f90) ?_ ?_ (PFr.tr f1 f90.p))
  · rw [f90.1 19 (by omega), wr_ne (by decide), wr_at, pk_un (by decide), wr_ne (by decide)]
  · rw [f90.2 171 (by omega), wr_at, wr_ne (by decide), wr_ne (by decide)]
theorem t158_X12 {Q : Int32 → HP → Prop} (hT : MT S b n) (hb : byOk b n) (hn : n ≤ 96) {s e key : Nat} {t : Int32} (hk : MKr S b s e t) (hto : TkO b n s e t) (hkey : S 159 14 = nI key) (h3 : key < 3) {W Cd : List Int32} (hR : RPS S W Cd) {at_ : Nat} (hat : S 159 19 = nI at_) (h96 : ¬ t = 258 → W.length + Cd.length < 96) (hat9 : at_ ≤ 96) {x1 x2 x3 : Int32} (hq : paF b key s e t = none → Q 0 (lay Θ S)) (K : ∀ c, paF b key s e t = some c → ∀ S', MKr S' b (nxS b n e) (nxE b n e) (nxK b n e t) → RPS S' (stl 6 W (c :: Cd)).1 (stl 6 W (c :: Cd)).2 → S' 159 19 = nI (at_ + 1) → S' 171 = S 171 → PFr S S' → E Θ (d + 3) 0 0 yX12_takesE cX12_takesE 5 (some .boolean) 0 0 183 (lay Θ S') 28 [(3, .int 0), (2, .int (nI (nnF (stl 6 W (c :: Cd)).1))), (1, .int x1), (0, .ref (tb Θ + 159))] [] (Qi Q)) : E Θ (d + 3) 0 0 yX12_takesE cX12_takesE 5 (some .boolean) 0 0 183 (lay Θ S) 158 [(3, .int x3), (2, .int x2), (1, .int x1), (0, .ref (tb Θ + 159))] [] (Qi Q) := by
  refine E_aload_n dX12_takesE_158 rfl ?_
  refine E_V0i vX12_255_12 dX12_takesE_159 (Nat.le_of_ble_eq_true rfl) (by decide) (sh_159 _) (s_X12_takesPart hT hb hn hk hto hkey h3 hR hat h96 hat9 (And.symm ⟨fun c hc S159 k159 r159 a159 f159 g159 => ?_, fun h0 => ?_⟩))
  · refine E_if_eq dX12_takesE_162 (fun c => absurd c (by decide)) (fun _ => ?_)
    refine E_ic (v := 0) dX12_takesE_165 (by decide) ?_
    refine E_istore_n dX12_takesE_166 (by decide) ?_
    refine E_goto dX12_takesE_167 ?_
    refine E_aload_n dX12_takesE_172 rfl ?_
    refine E_V0i vX12_259_12 dX12_takesE_173 (Nat.le_of_ble_eq_true rfl) (by decide) (sh_159 _) (s_X12_notsOpen r159.1 r159.2.2.1 (by have := stl_len (r := 6) W (c :: Cd); have := h96 (fun z => by rw [z] at hc; cases hc); simp only [List.length_cons] at *; omega) ?_)
    refine E_istore_n dX12_takesE_176 (by decide) ?_
    refine E_goto dX12_takesE_177 ?_
    exact E.loc (by exact ⟨rfl, rfl, rfl, rfl, trivial⟩) (K c hc S159 k159 r159 a159 g159 f159)
  · refine E_if_eq dX12_takesE_162 (fun _ => ?_) (fun c => absurd (by decide) c)
    refine E_ic (v := 0) dX12_takesE_170 (by decide) ?_
    refine E_iret dX12_takesE_171 rfl rfl ?_
    exact hq h0
theorem t43_X12 {Q : Int32 → HP → Prop} {s e : Nat} {t : Int32} (hk : MKr S b s e t) (hto : TkO b n s e t) {par nots : Nat} (h8 : par ≤ 8) (h8' : nots ≤ 8) {x1 x2 x3 : Int32} (hx1 : x1 = nI par) (hx2 : x2 = nI nots) (h33 : t = 33 → nots < 8 → E Θ (d + 3) 0 0 yX12_takesE cX12_takesE 5 (some .boolean) 0 0 183 (lay Θ S) 66 [(3, .int x3), (2, .int x2), (1, .int x1), (0, .ref (tb Θ + 159))] [] (Qi Q)) (h40 : t = 40 → par < 8 → E Θ (d + 3) 0 0 yX12_takesE cX12_takesE 5 (some .boolean) 0 0 183 (lay Θ S) 120 [(3, .int x3), (2, .int x2), (1, .int x1), (0, .ref (tb Θ + 159))] [] (Qi Q)) (h158 : ¬ (t = 33 ∧ nots < 8) → ¬ (t = 40 ∧ par < 8) → E Θ (d + 3) 0 0 yX12_takesE cX12_takesE 5 (some .boolean) 0 0 183 (lay Θ S) 158 [(3, .int x3), (2, .int x2), (1, .int x1), (0, .ref (tb Θ + 159))] [] (Qi Q)) : E Θ (d + 3) 0 0 yX12_takesE cX12_takesE 5 (some .boolean) 0 0 183 (lay Θ S) 43 [(3, .int x3), (2, .int x2), (1, .int x1), (0, .ref (tb Θ + 159))] [] (Qi Q) := by
  by_cases q1 : t = 33 ∧ nots < 8
  · have h33 := h33 q1.1 q1.2
    have hs : isSg t := by rw [q1.1]; exact sg_33
    refine E_aload_n dX12_takesE_43 rfl ?_
    refine L_get fX12_219 dX12_takesE_44 (by decide) sh_159 rfl ?_
    rw [hk.2.2.1]
    refine E_ic (v := 3) dX12_takesE_47 (by decide) ?_
    refine E_icmp_ne dX12_takesE_48 (fun c => absurd (rtk_sg hs) c) (fun _ => ?_)
    refine E_aload_n dX12_takesE_51 rfl ?_
    refine L_get fX12_225 dX12_takesE_52 (by decide) sh_159 rfl ?_
    rw [hk.val hto hs]
    refine E_bipush (v := 33) dX12_takesE_55 (by decide) ?_
    refine E_icmp_ne dX12_takesE_57 (fun c => absurd q1.1 c) (fun _ => ?_)
    refine E_iload_n dX12_takesE_60 rfl ?_
    refine E_bipush (v := 8) dX12_takesE_61 (by decide) ?_
    refine E_icmp_ge dX12_takesE_63 (fun c => absurd c (fun z => absurd ((nI_leI (a := 8) (by decide) (by omega)).mp (hx2 ▸ z)) (by omega))) (fun _ => ?_)
    exact h33
  · by_cases q2 : t = 40 ∧ par < 8
    · have h40 := h40 q2.1 q2.2
      have hs : isSg t := by rw [q2.1]; exact sg_40
      refine E_aload_n dX12_takesE_43 rfl ?_
      refine L_get fX12_219 dX12_takesE_44 (by decide) sh_159 rfl ?_
      rw [hk.2.2.1]
      refine E_ic (v := 3) dX12_takesE_47 (by decide) ?_
      refine E_icmp_ne dX12_takesE_48 (fun c => absurd (rtk_sg hs) c) (fun _ => ?_)
      refine E_aload_n dX12_takesE_51 rfl ?_
      refine L_get fX12_225 dX12_takesE_52 (by decide) sh_159 rfl ?_
      rw [hk.val hto hs]
      refine E_bipush (v := 33) dX12_takesE_55 (by decide) ?_
      refine E_icmp_ne dX12_takesE_57 (fun _ => ?_) (fun c => absurd c (by rw [q2.1]; decide))
      refine E_aload_n dX12_takesE_97 rfl ?_
      refine L_get fX12_219 dX12_takesE_98 (by decide) sh_159 rfl ?_
      rw [hk.2.2.1]
      refine E_ic (v := 3) dX12_takesE_101 (by decide) ?_
      refine E_icmp_ne dX12_takesE_102 (fun c => absurd (rtk_sg hs) c) (fun _ => ?_)
      refine E_aload_n dX12_takesE_105 rfl ?_
      refine L_get fX12_225 dX12_takesE_106 (by decide) sh_159 rfl ?_
      rw [hk.val hto hs]
      refine E_bipush (v := 40) dX12_takesE_109 (by decide) ?_
      refine E_icmp_ne dX12_takesE_111 (fun c => absurd q2.1 c) (fun _ => ?_)
      refine E_iload_n dX12_takesE_114 rfl ?_
      refine E_bipush (v := 8) dX12_takesE_115 (by decide) ?_
      refine E_icmp_ge dX12_takesE_117 (fun c => absurd c (fun z => absurd ((nI_leI (a := 8) (by decide) (by omega)).mp (hx1 ▸ z)) (by omega))) (fun _ => ?_)
      exact h40
    · have h158 := h158 q1 q2
      by_cases hs : isSg t
      · refine E_aload_n dX12_takesE_43 rfl ?_
        refine L_get fX12_219 dX12_takesE_44 (by decide) sh_159 rfl ?_
        rw [hk.2.2.1]
        refine E_ic (v := 3) dX12_takesE_47 (by decide) ?_
        refine E_icmp_ne dX12_takesE_48 (fun c => absurd (rtk_sg hs) c) (fun _ => ?_)
        refine E_aload_n dX12_takesE_51 rfl ?_
        refine L_get fX12_225 dX12_takesE_52 (by decide) sh_159 rfl ?_
        rw [hk.val hto hs]
        refine E_bipush (v := 33) dX12_takesE_55 (by decide) ?_
        refine E_icmp_ne dX12_takesE_57 (fun c57 => ?_) (fun c57 => ?_)
        · refine E_aload_n dX12_takesE_97 rfl ?_
          refine L_get fX12_219 dX12_takesE_98 (by decide) sh_159 rfl ?_
          rw [hk.2.2.1]
          refine E_ic (v := 3) dX12_takesE_101 (by decide) ?_
          refine E_icmp_ne dX12_takesE_102 (fun c => absurd (rtk_sg hs) c) (fun _ => ?_)
          refine E_aload_n dX12_takesE_105 rfl ?_
          refine L_get fX12_225 dX12_takesE_106 (by decide) sh_159 rfl ?_
          rw [hk.val hto hs]
          refine E_bipush (v := 40) dX12_takesE_109 (by decide) ?_
          refine E_icmp_ne dX12_takesE_111 (fun c111 => ?_) (fun c111 => ?_)
          · exact h158
          · refine E_iload_n dX12_takesE_114 rfl ?_
            refine E_bipush (v := 8) dX12_takesE_115 (by decide) ?_
            refine E_icmp_ge dX12_takesE_117 (fun c117 => ?_) (fun c117 => ?_)
            · exact h158
            · exact absurd ⟨c111, (nI_ltI (b := 8) (by omega) (by decide)).mp (i_nle (hx1 ▸ c117))⟩ q2
        · refine E_iload_n dX12_takesE_60 rfl ?_
          refine E_bipush (v := 8) dX12_takesE_61 (by decide) ?_
          refine E_icmp_ge dX12_takesE_63 (fun c63 => ?_) (fun c63 => ?_)
          · refine E_aload_n dX12_takesE_97 rfl ?_
            refine L_get fX12_219 dX12_takesE_98 (by decide) sh_159 rfl ?_
            rw [hk.2.2.1]
            refine E_ic (v := 3) dX12_takesE_101 (by decide) ?_
            refine E_icmp_ne dX12_takesE_102 (fun c => absurd (rtk_sg hs) c) (fun _ => ?_)
            refine E_aload_n dX12_takesE_105 rfl ?_
            refine L_get fX12_225 dX12_takesE_106 (by decide) sh_159 rfl ?_
            rw [hk.val hto hs]
            refine E_bipush (v := 40) dX12_takesE_109 (by decide) ?_
            refine E_icmp_ne dX12_takesE_111 (fun c111 => ?_) (fun c111 => ?_)
            · exact h158
            · refine E_iload_n dX12_takesE_114 rfl ?_
              refine E_bipush (v := 8) dX12_takesE_115 (by decide) ?_
              refine E_icmp_ge dX12_takesE_117 (fun c117 => ?_) (fun c117 => ?_)
              · exact h158
              · exact absurd ⟨c111, (nI_ltI (b := 8) (by omega) (by decide)).mp (i_nle (hx1 ▸ c117))⟩ q2
          · exact absurd ⟨c57, (nI_ltI (b := 8) (by omega) (by decide)).mp (i_nle (hx2 ▸ c63))⟩ q1
      · refine E_aload_n dX12_takesE_43 rfl ?_
        refine L_get fX12_219 dX12_takesE_44 (by decide) sh_159 rfl ?_
        rw [hk.2.2.1]
        refine E_ic (v := 3) dX12_takesE_47 (by decide) ?_
        refine E_icmp_ne dX12_takesE_48 (fun _ => ?_) (fun c => absurd c (rtk_no hs))
        refine E_aload_n dX12_takesE_97 rfl ?_
        refine L_get fX12_219 dX12_takesE_98 (by decide) sh_159 rfl ?_
        rw [hk.2.2.1]
        refine E_ic (v := 3) dX12_takesE_101 (by decide) ?_
        refine E_icmp_ne dX12_takesE_102 (fun _ => ?_) (fun c => absurd c (rtk_no hs))
        exact h158
theorem t180_X12 {Q : Int32 → HP → Prop} {s e : Nat} {t : Int32} (hk : MKr S b s e t) (hto : TkO b n s e t) {par : Nat} (h8 : par ≤ 8) {x1 x2 x3 : Int32} (hx1 : x1 = nI par) (h41 : t = 41 → 0 < par → E Θ (d + 3) 0 0 yX12_takesE cX12_takesE 5 (some .boolean) 0 0 183 (lay Θ S) 201 [(3, .int x3), (2, .int x2), (1, .int x1), (0, .ref (tb Θ + 159))] [] (Qi Q)) (h237 : ¬ (t = 41 ∧ 0 < par) → E Θ (d + 3) 0 0 yX12_takesE cX12_takesE 5 (some .boolean) 0 0 183 (lay Θ S) 237 [(3, .int x3), (2, .int x2), (1, .int x1), (0, .ref (tb Θ + 159))] [] (Qi Q)) : E Θ (d + 3) 0 0 yX12_takesE cX12_takesE 5 (some .boolean) 0 0 183 (lay Θ S) 180 [(3, .int x3), (2, .int x2), (1, .int x1), (0, .ref (tb Θ + 159))] [] (Qi Q) := by
  by_cases q1 : t = 41 ∧ 0 < par
  · have h41 := h41 q1.1 q1.2
    have hs : isSg t := by rw [q1.1]; exact sg_41
    refine E_aload_n dX12_takesE_180 rfl ?_
    refine L_get fX12_219 dX12_takesE_181 (by decide) sh_159 rfl ?_
    rw [hk.2.2.1]
    refine E_ic (v := 3) dX12_takesE_184 (by decide) ?_
    refine E_icmp_ne dX12_takesE_185 (fun c => absurd (rtk_sg hs) c) (fun _ => ?_)
    refine E_aload_n dX12_takesE_188 rfl ?_
    refine L_get fX12_225 dX12_takesE_189 (by decide) sh_159 rfl ?_
    rw [hk.val hto hs]
    refine E_bipush (v := 41) dX12_takesE_192 (by decide) ?_
    refine E_icmp_ne dX12_takesE_194 (fun c => absurd q1.1 c) (fun _ => ?_)
    refine E_iload_n dX12_takesE_197 rfl ?_
    refine E_if_le dX12_takesE_198 (fun c => absurd c (by rw [hx1]; exact nI_nle (by omega) (by omega))) (fun _ => ?_)
    exact h41
  · have h237 := h237 q1
    by_cases hs : isSg t
    · refine E_aload_n dX12_takesE_180 rfl ?_
      refine L_get fX12_219 dX12_takesE_181 (by decide) sh_159 rfl ?_
      rw [hk.2.2.1]
      refine E_ic (v := 3) dX12_takesE_184 (by decide) ?_
      refine E_icmp_ne dX12_takesE_185 (fun c => absurd (rtk_sg hs) c) (fun _ => ?_)
      refine E_aload_n dX12_takesE_188 rfl ?_
      refine L_get fX12_225 dX12_takesE_189 (by decide) sh_159 rfl ?_
      rw [hk.val hto hs]
      refine E_bipush (v := 41) dX12_takesE_192 (by decide) ?_
      refine E_icmp_ne dX12_takesE_194 (fun c194 => ?_) (fun c194 => ?_)
      · exact h237
      · refine E_iload_n dX12_takesE_197 rfl ?_
        refine E_if_le dX12_takesE_198 (fun c198 => ?_) (fun c198 => ?_)
        · exact h237
        · exact absurd ⟨c194, Nat.pos_of_ne_zero (fun z => c198 (by rw [hx1, z]; exact Int32.le_refl _))⟩ q1
    · refine E_aload_n dX12_takesE_180 rfl ?_
      refine L_get fX12_219 dX12_takesE_181 (by decide) sh_159 rfl ?_
      rw [hk.2.2.1]
      refine E_ic (v := 3) dX12_takesE_184 (by decide) ?_
      refine E_icmp_ne dX12_takesE_185 (fun _ => ?_) (fun c => absurd c (rtk_no hs))
      exact h237
theorem t201_X12 {Q : Int32 → HP → Prop} (hT : MT S b n) (hb : byOk b n) (hn : n ≤ 96) {s e : Nat} {t : Int32} (hk : MKr S b s e t) (hto : TkO b n s e t) {W Cd : List Int32} (hR : RPS S W Cd) (h96 : W.length + Cd.length ≤ 96) (hs : isSg t) {par : Nat} (hop : 0 < opF W) (hp : 0 < par) {x1 x2 x3 : Int32} (hx1 : x1 = nI par) (K : ∀ S', MKr S' b (nxS b n e) (nxE b n e) (nxK b n e t) → RPS S' (stl 6 (stl 0 W Cd).1.tail (stl 0 W Cd).2).1 (stl 6 (stl 0 W Cd).1.tail (stl 0 W Cd).2).2 → S' 159 19 = S 159 19 → S' 171 = S 171 → PFr S S' → E Θ (d + 3) 0 0 yX12_takesE cX12_takesE 5 (some .boolean) 0 0 183 (lay Θ S') 28 [(3, .int x3), (2, .int (nI (nnF (stl 6 (stl 0 W Cd).1.tail (stl 0 W Cd).2).1))), (1, .int (nI (par - 1))), (0, .ref (tb Θ + 159))] [] (Qi Q)) : E Θ (d + 3) 0 0 yX12_takesE cX12_takesE 5 (some .boolean) 0 0 183 (lay Θ S) 201 [(3, .int x3), (2, .int x2), (1, .int x1), (0, .ref (tb Θ + 159))] [] (Qi Q) := by
  refine E_aload_n dX12_takesE_201 rfl ?_
  refine E_ic (v := 0) dX12_takesE_202 (by decide) ?_
  refine E_V1v vX12_252_12 dX12_takesE_203 (Nat.le_of_ble_eq_true rfl) (by decide) (sh_159 _) (s_X12_settle (r := 0) (by omega) hR h96 (fun S203 r203 f203 => ?_))
  refine E_aload_n dX12_takesE_206 rfl ?_
  refine E_dup dX12_takesE_207 rfl ?_
  obtain ⟨W2, eW, eO⟩ := stl_open (C := Cd) W hop Cd
  have hl0 := stl_len (r := 0) W Cd
  rw [eW] at r203 hl0
  simp only [List.length_cons] at hl0
  refine L_get fX12_237 dX12_takesE_208 (by decide) sh_159 rfl ?_
  rw [r203.1, List.length_cons]
  refine E_ic (v := 1) dX12_takesE_211 (by decide) ?_
  refine E_isub dX12_takesE_212 ?_
  rw [nI_pred]
  refine L_puti fX12_237 dX12_takesE_213 (by decide) sh_159 (Nat.le_of_ble_eq_true rfl) rfl ?_
  refine E_iinc (v := (-1)) dX12_takesE_216 rfl (by decide) (by decide) ?_
  refine E_aload_n dX12_takesE_219 rfl ?_
  refine E_bipush (v := 6) dX12_takesE_220 (by decide) ?_
  have r213 : RPS (wr S203 159 21 (nI W2.length)) W2 (stl 0 W Cd).2 := ⟨by rw [wr_at, pk_us], by rw [wr_at, pk_un (by decide)]; exact r203.2.1, by rw [wr_ne (by decide)]; exact r203.2.2.1.2, by rw [wr_ne (by decide)]; exact r203.2.2.2⟩
  have f213 : PFr S (wr S203 159 21 (nI W2.length)) := f203.p.tr (PFr.w (Or.inr (Or.inr rfl)))
  refine E_V1v vX12_252_12 dX12_takesE_222 (Nat.le_of_ble_eq_true rfl) (by decide) (sh_159 _) (s_X12_settle (r := 6) (by omega) r213 (by omega) (fun S222 r222 f222 => ?_))
  refine E_aload_n dX12_takesE_225 rfl ?_
  refine E_V0i vX12_259_12 dX12_takesE_226 (Nat.le_of_ble_eq_true rfl) (by decide) (sh_159 _) (s_X12_notsOpen r222.1 r222.2.2.1 (by have := stl_len (r := 6) W2 (stl 0 W Cd).2; omega) ?_)
  refine E_istore_n dX12_takesE_229 (by decide) ?_
  refine E_aload_n dX12_takesE_230 rfl ?_
  have f9 : PFr S S222 := f213.tr f222.p
  have g9 : ∀ j, 9 ≤ j → j ≤ 13 → S222 159 j = S 159 j := fun j h1 h2 => by rw [f222.1 j (by omega) (by omega), wr_at, pk_un (by omega), f203.1 j (by omega) (by omega)]
  have k9 : MKr S222 b s e t := hk.sf g9
  refine E_V0v vX12_234_12 dX12_takesE_231 (Nat.le_of_ble_eq_true rfl) (by decide) (sh_159 _) (s_X12_go (hT.pf f9) hb hn hto.2.1 k9.1 (k9.en hs.1 hs.2.1) (fun S90 k90 f90 => ?_))
  refine E_goto dX12_takesE_234 ?_
  have K9 := K S90
  rw [eW, List.tail_cons] at K9
  rw [hx1, nI_dec hp]
  refine E.loc (by exact ⟨rfl, rfl, rfl, rfl, trivial⟩) (K9 k90 (r222.gf f90) ?_ ?_ (f9.tr f90.p))
  · rw [f90.1 19 (by omega), f222.1 19 (by omega) (by omega), wr_at, pk_un (by decide), f203.1 19 (by omega) (by omega)]
  · rw [f90.2 171 (by omega), f222.2 171 (by omega) (by omega), wr_ne (by decide), f203.2 171 (by omega) (by omega)]
theorem t345_X12 {Q : Int32 → HP → Prop} {W Cd : List Int32} (hR : RPS S W Cd) (h96 : W.length + Cd.length ≤ 96) {par : Nat} (h8 : par ≤ 8) {x1 x2 x3 : Int32} (hx1 : x1 = nI par) (hq1 : par = 0 → ∀ S', RPS S' (stl 0 W Cd).1 (stl 0 W Cd).2 → S' 159 19 = S 159 19 → PFr S S' → Q 1 (lay Θ S')) (hq0 : ¬ par = 0 → ∀ S', S' 159 10 = S 159 10 → PFr S S' → Q 0 (lay Θ S')) : E Θ (d + 3) 0 0 yX12_takesE cX12_takesE 5 (some .boolean) 0 0 183 (lay Θ S) 345 [(3, .int x3), (2, .int x2), (1, .int x1), (0, .ref (tb Θ + 159))] [] (Qi Q) := by
  refine E_aload_n dX12_takesE_345 rfl ?_
  refine E_ic (v := 0) dX12_takesE_346 (by decide) ?_
  refine E_V1v vX12_252_12 dX12_takesE_347 (Nat.le_of_ble_eq_true rfl) (by decide) (sh_159 _) (s_X12_settle (r := 0) (by omega) hR h96 (fun S347 r347 f347 => ?_))
  refine E_iload_n dX12_takesE_350 rfl ?_
  refine E_if_ne dX12_takesE_351 (fun c351 => ?_) (fun c351 => ?_)
  · refine E_ic (v := 0) dX12_takesE_358 (by decide) ?_
    refine E_iret dX12_takesE_359 rfl rfl ?_
    exact hq0 (fun z => c351 (by rw [hx1, z]; rfl)) S347 (f347.1 10 (by omega) (by omega)) f347.p
  · refine E_ic (v := 1) dX12_takesE_354 (by decide) ?_
    refine E_goto dX12_takesE_355 ?_
    refine E_iret dX12_takesE_359 rfl rfl ?_
    exact hq1 (nI_inj (by omega) (by decide) (hx1.symm.trans c351)) S347 r347 (f347.1 19 (by omega) (by omega)) f347.p
theorem t237_X12 {Q : Int32 → HP → Prop} (hT : MT S b n) (hb : byOk b n) (hn : n ≤ 96) {s e : Nat} {t : Int32} (hk : MKr S b s e t) (hto : TkO b n s e t) {W Cd : List Int32} (hR : RPS S W Cd) (h96 : W.length + Cd.length ≤ 95) {par : Nat} {te : Nat → Bool} (h8 : par ≤ 8) (hte : S 171 par = if te par then 1 else 0) {x1 x2 x3 : Int32} (hx1 : x1 = nI par) (hq : sgF t = 0 ∨ (rkF (sgF t) = 3 ∧ te par = true) → Q 0 (lay Θ S)) (K : ¬ (sgF t = 0 ∨ (rkF (sgF t) = 3 ∧ te par = true)) → ∀ v : Bool, (rkF (sgF t) == 3 || (decide (3 < rkF (sgF t)) && te par)) = v → ∀ S', MKr S' b (nxS b n e) (nxE b n e) (nxK b n e t) → RPS S' (sgF t :: (stl (rkF (sgF t)) W Cd).1) (stl (rkF (sgF t)) W Cd).2 → S' 159 19 = S 159 19 → S' 171 = upd (S 171) par (if v then 1 else 0) → PFr S S' → E Θ (d + 3) 0 0 yX12_takesE cX12_takesE 5 (some .boolean) 0 0 183 (lay Θ S') 28 [(3, .int 1), (2, .int x2), (1, .int x1), (0, .ref (tb Θ + 159))] [] (Qi Q)) : E Θ (d + 3) 0 0 yX12_takesE cX12_takesE 5 (some .boolean) 0 0 183 (lay Θ S) 237 [(3, .int x3), (2, .int x2), (1, .int x1), (0, .ref (tb Θ + 159))] [] (Qi Q) := by
  by_cases hg : sgF t = 0
  · refine E_aload_n dX12_takesE_237 rfl ?_
    refine E_V0i vX12_262_12 dX12_takesE_238 (Nat.le_of_ble_eq_true rfl) (by decide) (sh_159 _) (s_X12_signHere hk hto ?_)
    refine E_istore dX12_takesE_241 (by decide) ?_
    refine E_iload dX12_takesE_243 rfl ?_
    refine E_if_eq dX12_takesE_245 (fun _ => ?_) (fun c => absurd hg c)
    refine E_ic (v := 0) dX12_takesE_266 (by decide) ?_
    refine E_iret dX12_takesE_267 rfl rfl ?_
    exact hq (Or.inl hg)
  by_cases hz : rkF (sgF t) = 3 ∧ te par = true
  · obtain ⟨h3, hf⟩ := hz
    refine E_aload_n dX12_takesE_237 rfl ?_
    refine E_V0i vX12_262_12 dX12_takesE_238 (Nat.le_of_ble_eq_true rfl) (by decide) (sh_159 _) (s_X12_signHere hk hto ?_)
    refine E_istore dX12_takesE_241 (by decide) ?_
    refine E_iload dX12_takesE_243 rfl ?_
    refine E_if_eq dX12_takesE_245 (fun c => absurd c hg) (fun _ => ?_)
    refine E_iload dX12_takesE_248 rfl ?_
    refine E_S1i sX12_240 dX12_takesE_250 (Nat.le_of_ble_eq_true rfl) (s_X12_rank ?_)
    refine E_ic (v := 3) dX12_takesE_253 (by decide) ?_
    refine E_icmp_ne dX12_takesE_254 (fun c => absurd (by rw [h3]; rfl) c) (fun _ => ?_)
    refine E_aload_n dX12_takesE_257 rfl ?_
    refine L_get fX12_45 dX12_takesE_258 (by decide) sh_159 rfl ?_
    refine E_iload_n dX12_takesE_261 rfl ?_
    refine L_zald (j := par) dX12_takesE_262 (by decide) sh_171 hx1 (by omega) (by decide) ?_
    rw [hte]
    refine E_if_eq dX12_takesE_263 (fun c => absurd c (by rw [if_pos hf]; decide)) (fun _ => ?_)
    refine E_ic (v := 0) dX12_takesE_266 (by decide) ?_
    refine E_iret dX12_takesE_267 rfl rfl ?_
    exact hq (Or.inr ⟨h3, hf⟩)
  have hs := sg_is hg
  have hz0 : ¬ (sgF t = 0 ∨ (rkF (sgF t) = 3 ∧ te par = true)) := fun z => z.elim hg hz
  by_cases h3 : rkF (sgF t) = 3
  · have hf : te par = false := by
      cases hc : te par
      · rfl
      · exact absurd ⟨h3, hc⟩ hz
    refine E_aload_n dX12_takesE_237 rfl ?_
    refine E_V0i vX12_262_12 dX12_takesE_238 (Nat.le_of_ble_eq_true rfl) (by decide) (sh_159 _) (s_X12_signHere hk hto ?_)
    refine E_istore dX12_takesE_241 (by decide) ?_
    refine E_iload dX12_takesE_243 rfl ?_
    refine E_if_eq dX12_takesE_245 (fun c => absurd c hg) (fun _ => ?_)
    refine E_iload dX12_takesE_248 rfl ?_
    refine E_S1i sX12_240 dX12_takesE_250 (Nat.le_of_ble_eq_true rfl) (s_X12_rank ?_)
    refine E_ic (v := 3) dX12_takesE_253 (by decide) ?_
    refine E_icmp_ne dX12_takesE_254 (fun c => absurd (by rw [h3]; rfl) c) (fun _ => ?_)
    refine E_aload_n dX12_takesE_257 rfl ?_
    refine L_get fX12_45 dX12_takesE_258 (by decide) sh_159 rfl ?_
    refine E_iload_n dX12_takesE_261 rfl ?_
    refine L_zald (j := par) dX12_takesE_262 (by decide) sh_171 hx1 (by omega) (by decide) ?_
    rw [hte]
    refine E_if_eq dX12_takesE_263 (fun _ => ?_) (fun c => absurd (by rw [if_neg (by rw [hf]; decide)]) c)
    refine E_aload_n dX12_takesE_268 rfl ?_
    refine L_get fX12_45 dX12_takesE_269 (by decide) sh_159 rfl ?_
    refine E_iload_n dX12_takesE_272 rfl ?_
    refine E_iload dX12_takesE_273 rfl ?_
    refine E_S1i sX12_240 dX12_takesE_275 (Nat.le_of_ble_eq_true rfl) (s_X12_rank ?_)
    refine E_ic (v := 3) dX12_takesE_278 (by decide) ?_
    refine E_icmp_eq dX12_takesE_279 (fun _ => ?_) (fun c => absurd (by rw [h3]; rfl) c)
    refine E_ic (v := 1) dX12_takesE_300 (by decide) ?_
    refine E_goto dX12_takesE_301 ?_
    refine L_zast (j := par) dX12_takesE_305 (by decide) sh_171 hx1 (by omega) (by decide) ?_
    rw [show vp_nar .boolean 1 = 1 from rfl]
    have f305 : PFr S (wr S 171 par 1) := PFr.w2 (Or.inr (Or.inr rfl))
    have k305 : MKr (wr S 171 par 1) b s e t := hk.sf (fun j h1 h2 => by rw [wr_ne (by decide)])
    have r305 : RPS (wr S 171 par 1) W Cd := hR.g (by rw [wr_ne (by decide)]) (by rw [wr_ne (by decide)]) (by rw [wr_ne (by decide)]) (by rw [wr_ne (by decide)])
    refine E_aload_n dX12_takesE_306 rfl ?_
    refine E_iload dX12_takesE_307 rfl ?_
    refine E_S1i sX12_240 dX12_takesE_309 (Nat.le_of_ble_eq_true rfl) (s_X12_rank ?_)
    refine E_V1v vX12_252_12 dX12_takesE_312 (Nat.le_of_ble_eq_true rfl) (by decide) (sh_159 _) (s_X12_settle (r := rkF (sgF t)) (rk_6 _) r305 (by omega) (fun S312 r312 f312 => ?_))
    refine E_aload_n dX12_takesE_315 rfl ?_
    refine L_get fX12_42 dX12_takesE_316 (by decide) sh_159 rfl ?_
    refine E_aload_n dX12_takesE_319 rfl ?_
    refine L_get fX12_237 dX12_takesE_320 (by decide) sh_159 rfl ?_
    rw [r312.1]
    refine E_iload dX12_takesE_323 rfl ?_
    refine L_iast (j := (stl (rkF (sgF t)) W Cd).1.length) dX12_takesE_325 (by decide) sh_170 rfl (by have := stl_len (r := rkF (sgF t)) W Cd; omega) (by decide) ?_
    refine E_aload_n dX12_takesE_326 rfl ?_
    refine E_dup dX12_takesE_327 rfl ?_
    refine L_get fX12_237 dX12_takesE_328 (by decide) sh_159 rfl ?_
    rw [wr_ne (by decide), r312.1]
    refine E_ic (v := 1) dX12_takesE_331 (by decide) ?_
    refine E_iadd dX12_takesE_332 ?_
    rw [nI_1]
    refine L_puti fX12_237 dX12_takesE_333 (by decide) sh_159 (Nat.le_of_ble_eq_true rfl) rfl ?_
    refine E_ic (v := 1) dX12_takesE_336 (by decide) ?_
    refine E_istore_n dX12_takesE_337 (by decide) ?_
    refine E_aload_n dX12_takesE_338 rfl ?_
    have g10 := stl_len (r := rkF (sgF t)) W Cd
    have f339 : PFr S (wr (wr S312 170 (stl (rkF (sgF t)) W Cd).1.length (sgF t)) 159 21 (nI ((stl (rkF (sgF t)) W Cd).1.length + 1))) := (f305.tr f312.p).tr ((PFr.w2 (Or.inr (Or.inl rfl))).tr (PFr.w (Or.inr (Or.inr rfl))))
    have k339 : MKr (wr (wr S312 170 (stl (rkF (sgF t)) W Cd).1.length (sgF t)) 159 21 (nI ((stl (rkF (sgF t)) W Cd).1.length + 1))) b s e t := k305.sf (fun j h1 h2 => by rw [wr_at, pk_un (by omega), wr_ne (by decide), f312.1 j (by omega) (by omega)])
    refine E_V0v vX12_234_12 dX12_takesE_339 (Nat.le_of_ble_eq_true rfl) (by decide) (sh_159 _) (s_X12_go (hT.pf f339) hb hn hto.2.1 k339.1 (k339.en hs.1 hs.2.1) (fun S339 k339n f339g => ?_))
    refine E_goto dX12_takesE_342 ?_
    refine E.loc (by exact ⟨rfl, rfl, rfl, rfl, trivial⟩) (K hz0 true (by rw [h3]; rfl) S339 k339n (r312.push.gf f339g) ?_ ?_ (f339.tr f339g.p))
    · rw [f339g.1 19 (by omega), wr_at, pk_un (by decide), wr_ne (by decide), f312.1 19 (by omega) (by omega), wr_ne (by decide)]
    · rw [f339g.2 171 (by omega), wr_ne (by decide), wr_ne (by decide), f312.2 171 (by omega) (by omega), wr_at]
      rfl
  · by_cases h4 : 3 < rkF (sgF t)
    · rcases Bool.eq_false_or_eq_true (te par) with ht3 | ht3
      · refine E_aload_n dX12_takesE_237 rfl ?_
        refine E_V0i vX12_262_12 dX12_takesE_238 (Nat.le_of_ble_eq_true rfl) (by decide) (sh_159 _) (s_X12_signHere hk hto ?_)
        refine E_istore dX12_takesE_241 (by decide) ?_
        refine E_iload dX12_takesE_243 rfl ?_
        refine E_if_eq dX12_takesE_245 (fun c => absurd c hg) (fun _ => ?_)
        refine E_iload dX12_takesE_248 rfl ?_
        refine E_S1i sX12_240 dX12_takesE_250 (Nat.le_of_ble_eq_true rfl) (s_X12_rank ?_)
        refine E_ic (v := 3) dX12_takesE_253 (by decide) ?_
        refine E_icmp_ne dX12_takesE_254 (fun _ => ?_) (fun c => absurd c (fun z => h3 (nI_inj (by have := rk_6 (sgF t); omega) (by decide) z)))
        refine E_aload_n dX12_takesE_268 rfl ?_
        refine L_get fX12_45 dX12_takesE_269 (by decide) sh_159 rfl ?_
        refine E_iload_n dX12_takesE_272 rfl ?_
        refine E_iload dX12_takesE_273 rfl ?_
        refine E_S1i sX12_240 dX12_takesE_275 (Nat.le_of_ble_eq_true rfl) (s_X12_rank ?_)
        refine E_ic (v := 3) dX12_takesE_278 (by decide) ?_
        refine E_icmp_eq dX12_takesE_279 (fun c => absurd c (fun z => h3 (nI_inj (by have := rk_6 (sgF t); omega) (by decide) z))) (fun _ => ?_)
        refine E_iload dX12_takesE_282 rfl ?_
        refine E_S1i sX12_240 dX12_takesE_284 (Nat.le_of_ble_eq_true rfl) (s_X12_rank ?_)
        refine E_ic (v := 3) dX12_takesE_287 (by decide) ?_
        refine E_icmp_le dX12_takesE_288 (fun c => absurd c (fun z => absurd ((nI_leI (b := 3) (by have := rk_6 (sgF t); omega) (by decide)).mp z) (by omega))) (fun _ => ?_)
        refine E_aload_n dX12_takesE_291 rfl ?_
        refine L_get fX12_45 dX12_takesE_292 (by decide) sh_159 rfl ?_
        refine E_iload_n dX12_takesE_295 rfl ?_
        refine L_zald (j := par) dX12_takesE_296 (by decide) sh_171 hx1 (by omega) (by decide) ?_
        rw [hte]
        refine E_if_eq dX12_takesE_297 (fun c => absurd c (by rw [if_pos ht3]; decide)) (fun _ => ?_)
        refine E_ic (v := 1) dX12_takesE_300 (by decide) ?_
        refine E_goto dX12_takesE_301 ?_
        refine L_zast (j := par) dX12_takesE_305 (by decide) sh_171 hx1 (by omega) (by decide) ?_
        rw [show vp_nar .boolean 1 = 1 from rfl]
        have f305 : PFr S (wr S 171 par 1) := PFr.w2 (Or.inr (Or.inr rfl))
        have k305 : MKr (wr S 171 par 1) b s e t := hk.sf (fun j h1 h2 => by rw [wr_ne (by decide)])
        have r305 : RPS (wr S 171 par 1) W Cd := hR.g (by rw [wr_ne (by decide)]) (by rw [wr_ne (by decide)]) (by rw [wr_ne (by decide)]) (by rw [wr_ne (by decide)])
        refine E_aload_n dX12_takesE_306 rfl ?_
        refine E_iload dX12_takesE_307 rfl ?_
        refine E_S1i sX12_240 dX12_takesE_309 (Nat.le_of_ble_eq_true rfl) (s_X12_rank ?_)
        refine E_V1v vX12_252_12 dX12_takesE_312 (Nat.le_of_ble_eq_true rfl) (by decide) (sh_159 _) (s_X12_settle (r := rkF (sgF t)) (rk_6 _) r305 (by omega) (fun S312 r312 f312 => ?_))
        refine E_aload_n dX12_takesE_315 rfl ?_
        refine L_get fX12_42 dX12_takesE_316 (by decide) sh_159 rfl ?_
        refine E_aload_n dX12_takesE_319 rfl ?_
        refine L_get fX12_237 dX12_takesE_320 (by decide) sh_159 rfl ?_
        rw [r312.1]
        refine E_iload dX12_takesE_323 rfl ?_
        refine L_iast (j := (stl (rkF (sgF t)) W Cd).1.length) dX12_takesE_325 (by decide) sh_170 rfl (by have := stl_len (r := rkF (sgF t)) W Cd; omega) (by decide) ?_
        refine E_aload_n dX12_takesE_326 rfl ?_
        refine E_dup dX12_takesE_327 rfl ?_
        refine L_get fX12_237 dX12_takesE_328 (by decide) sh_159 rfl ?_
        rw [wr_ne (by decide), r312.1]
        refine E_ic (v := 1) dX12_takesE_331 (by decide) ?_
        refine E_iadd dX12_takesE_332 ?_
        rw [nI_1]
        refine L_puti fX12_237 dX12_takesE_333 (by decide) sh_159 (Nat.le_of_ble_eq_true rfl) rfl ?_
        refine E_ic (v := 1) dX12_takesE_336 (by decide) ?_
        refine E_istore_n dX12_takesE_337 (by decide) ?_
        refine E_aload_n dX12_takesE_338 rfl ?_
        have g10 := stl_len (r := rkF (sgF t)) W Cd
        have f339 : PFr S (wr (wr S312 170 (stl (rkF (sgF t)) W Cd).1.length (sgF t)) 159 21 (nI ((stl (rkF (sgF t)) W Cd).1.length + 1))) := (f305.tr f312.p).tr ((PFr.w2 (Or.inr (Or.inl rfl))).tr (PFr.w (Or.inr (Or.inr rfl))))
        have k339 : MKr (wr (wr S312 170 (stl (rkF (sgF t)) W Cd).1.length (sgF t)) 159 21 (nI ((stl (rkF (sgF t)) W Cd).1.length + 1))) b s e t := k305.sf (fun j h1 h2 => by rw [wr_at, pk_un (by omega), wr_ne (by decide), f312.1 j (by omega) (by omega)])
        refine E_V0v vX12_234_12 dX12_takesE_339 (Nat.le_of_ble_eq_true rfl) (by decide) (sh_159 _) (s_X12_go (hT.pf f339) hb hn hto.2.1 k339.1 (k339.en hs.1 hs.2.1) (fun S339 k339n f339g => ?_))
        refine E_goto dX12_takesE_342 ?_
        refine E.loc (by exact ⟨rfl, rfl, rfl, rfl, trivial⟩) (K hz0 true (by rw [ht3]; simp [h4]) S339 k339n (r312.push.gf f339g) ?_ ?_ (f339.tr f339g.p))
        · rw [f339g.1 19 (by omega), wr_at, pk_un (by decide), wr_ne (by decide), f312.1 19 (by omega) (by omega), wr_ne (by decide)]
        · rw [f339g.2 171 (by omega), wr_ne (by decide), wr_ne (by decide), f312.2 171 (by omega) (by omega), wr_at]
          rfl
      · refine E_aload_n dX12_takesE_237 rfl ?_
        refine E_V0i vX12_262_12 dX12_takesE_238 (Nat.le_of_ble_eq_true rfl) (by decide) (sh_159 _) (s_X12_signHere hk hto ?_)
        refine E_istore dX12_takesE_241 (by decide) ?_
        refine E_iload dX12_takesE_243 rfl ?_
        refine E_if_eq dX12_takesE_245 (fun c => absurd c hg) (fun _ => ?_)
        refine E_iload dX12_takesE_248 rfl ?_
        refine E_S1i sX12_240 dX12_takesE_250 (Nat.le_of_ble_eq_true rfl) (s_X12_rank ?_)
        refine E_ic (v := 3) dX12_takesE_253 (by decide) ?_
        refine E_icmp_ne dX12_takesE_254 (fun _ => ?_) (fun c => absurd c (fun z => h3 (nI_inj (by have := rk_6 (sgF t); omega) (by decide) z)))
        refine E_aload_n dX12_takesE_268 rfl ?_
        refine L_get fX12_45 dX12_takesE_269 (by decide) sh_159 rfl ?_
        refine E_iload_n dX12_takesE_272 rfl ?_
        refine E_iload dX12_takesE_273 rfl ?_
        refine E_S1i sX12_240 dX12_takesE_275 (Nat.le_of_ble_eq_true rfl) (s_X12_rank ?_)
        refine E_ic (v := 3) dX12_takesE_278 (by decide) ?_
        refine E_icmp_eq dX12_takesE_279 (fun c => absurd c (fun z => h3 (nI_inj (by have := rk_6 (sgF t); omega) (by decide) z))) (fun _ => ?_)
        refine E_iload dX12_takesE_282 rfl ?_
        refine E_S1i sX12_240 dX12_takesE_284 (Nat.le_of_ble_eq_true rfl) (s_X12_rank ?_)
        refine E_ic (v := 3) dX12_takesE_287 (by decide) ?_
        refine E_icmp_le dX12_takesE_288 (fun c => absurd c (fun z => absurd ((nI_leI (b := 3) (by have := rk_6 (sgF t); omega) (by decide)).mp z) (by omega))) (fun _ => ?_)
        refine E_aload_n dX12_takesE_291 rfl ?_
        refine L_get fX12_45 dX12_takesE_292 (by decide) sh_159 rfl ?_
        refine E_iload_n dX12_takesE_295 rfl ?_
        refine L_zald (j := par) dX12_takesE_296 (by decide) sh_171 hx1 (by omega) (by decide) ?_
        rw [hte]
        refine E_if_eq dX12_takesE_297 (fun _ => ?_) (fun c => absurd (by rw [if_neg (by rw [ht3]; decide)]) c)
        refine E_ic (v := 0) dX12_takesE_304 (by decide) ?_
        refine L_zast (j := par) dX12_takesE_305 (by decide) sh_171 hx1 (by omega) (by decide) ?_
        rw [show vp_nar .boolean 0 = 0 from rfl]
        have f305 : PFr S (wr S 171 par 0) := PFr.w2 (Or.inr (Or.inr rfl))
        have k305 : MKr (wr S 171 par 0) b s e t := hk.sf (fun j h1 h2 => by rw [wr_ne (by decide)])
        have r305 : RPS (wr S 171 par 0) W Cd := hR.g (by rw [wr_ne (by decide)]) (by rw [wr_ne (by decide)]) (by rw [wr_ne (by decide)]) (by rw [wr_ne (by decide)])
        refine E_aload_n dX12_takesE_306 rfl ?_
        refine E_iload dX12_takesE_307 rfl ?_
        refine E_S1i sX12_240 dX12_takesE_309 (Nat.le_of_ble_eq_true rfl) (s_X12_rank ?_)
        refine E_V1v vX12_252_12 dX12_takesE_312 (Nat.le_of_ble_eq_true rfl) (by decide) (sh_159 _) (s_X12_settle (r := rkF (sgF t)) (rk_6 _) r305 (by omega) (fun S312 r312 f312 => ?_))
        refine E_aload_n dX12_takesE_315 rfl ?_
        refine L_get fX12_42 dX12_takesE_316 (by decide) sh_159 rfl ?_
        refine E_aload_n dX12_takesE_319 rfl ?_
        refine L_get fX12_237 dX12_takesE_320 (by decide) sh_159 rfl ?_
        rw [r312.1]
        refine E_iload dX12_takesE_323 rfl ?_
        refine L_iast (j := (stl (rkF (sgF t)) W Cd).1.length) dX12_takesE_325 (by decide) sh_170 rfl (by have := stl_len (r := rkF (sgF t)) W Cd; omega) (by decide) ?_
        refine E_aload_n dX12_takesE_326 rfl ?_
        refine E_dup dX12_takesE_327 rfl ?_
        refine L_get fX12_237 dX12_takesE_328 (by decide) sh_159 rfl ?_
        rw [wr_ne (by decide), r312.1]
        refine E_ic (v := 1) dX12_takesE_331 (by decide) ?_
        refine E_iadd dX12_takesE_332 ?_
        rw [nI_1]
        refine L_puti fX12_237 dX12_takesE_333 (by decide) sh_159 (Nat.le_of_ble_eq_true rfl) rfl ?_
        refine E_ic (v := 1) dX12_takesE_336 (by decide) ?_
        refine E_istore_n dX12_takesE_337 (by decide) ?_
        refine E_aload_n dX12_takesE_338 rfl ?_
        have g10 := stl_len (r := rkF (sgF t)) W Cd
        have f339 : PFr S (wr (wr S312 170 (stl (rkF (sgF t)) W Cd).1.length (sgF t)) 159 21 (nI ((stl (rkF (sgF t)) W Cd).1.length + 1))) := (f305.tr f312.p).tr ((PFr.w2 (Or.inr (Or.inl rfl))).tr (PFr.w (Or.inr (Or.inr rfl))))
        have k339 : MKr (wr (wr S312 170 (stl (rkF (sgF t)) W Cd).1.length (sgF t)) 159 21 (nI ((stl (rkF (sgF t)) W Cd).1.length + 1))) b s e t := k305.sf (fun j h1 h2 => by rw [wr_at, pk_un (by omega), wr_ne (by decide), f312.1 j (by omega) (by omega)])
        refine E_V0v vX12_234_12 dX12_takesE_339 (Nat.le_of_ble_eq_true rfl) (by decide) (sh_159 _) (s_X12_go (hT.pf f339) hb hn hto.2.1 k339.1 (k339.en hs.1 hs.2.1) (fun S339 k339n f339g => ?_))
        refine E_goto dX12_takesE_342 ?_
        refine E.loc (by exact ⟨rfl, rfl, rfl, rfl, trivial⟩) (K hz0 false (by rw [ht3]; simp [h3]) S339 k339n (r312.push.gf f339g) ?_ ?_ (f339.tr f339g.p))
        · rw [f339g.1 19 (by omega), wr_at, pk_un (by decide), wr_ne (by decide), f312.1 19 (by omega) (by omega), wr_ne (by decide)]
        · rw [f339g.2 171 (by omega), wr_ne (by decide), wr_ne (by decide), f312.2 171 (by omega) (by omega), wr_at]
          rfl
    · refine E_aload_n dX12_takesE_237 rfl ?_
      refine E_V0i vX12_262_12 dX12_takesE_238 (Nat.le_of_ble_eq_true rfl) (by decide) (sh_159 _) (s_X12_signHere hk hto ?_)
      refine E_istore dX12_takesE_241 (by decide) ?_
      refine E_iload dX12_takesE_243 rfl ?_
      refine E_if_eq dX12_takesE_245 (fun c => absurd c hg) (fun _ => ?_)
      refine E_iload dX12_takesE_248 rfl ?_
      refine E_S1i sX12_240 dX12_takesE_250 (Nat.le_of_ble_eq_true rfl) (s_X12_rank ?_)
      refine E_ic (v := 3) dX12_takesE_253 (by decide) ?_
      refine E_icmp_ne dX12_takesE_254 (fun _ => ?_) (fun c => absurd c (fun z => h3 (nI_inj (by have := rk_6 (sgF t); omega) (by decide) z)))
      refine E_aload_n dX12_takesE_268 rfl ?_
      refine L_get fX12_45 dX12_takesE_269 (by decide) sh_159 rfl ?_
      refine E_iload_n dX12_takesE_272 rfl ?_
      refine E_iload dX12_takesE_273 rfl ?_
      refine E_S1i sX12_240 dX12_takesE_275 (Nat.le_of_ble_eq_true rfl) (s_X12_rank ?_)
      refine E_ic (v := 3) dX12_takesE_278 (by decide) ?_
      refine E_icmp_eq dX12_takesE_279 (fun c => absurd c (fun z => h3 (nI_inj (by have := rk_6 (sgF t); omega) (by decide) z))) (fun _ => ?_)
      refine E_iload dX12_takesE_282 rfl ?_
      refine E_S1i sX12_240 dX12_takesE_284 (Nat.le_of_ble_eq_true rfl) (s_X12_rank ?_)
      refine E_ic (v := 3) dX12_takesE_287 (by decide) ?_
      refine E_icmp_le dX12_takesE_288 (fun _ => ?_) (fun c => absurd (nI_le (b := 3) (by omega) (by decide)) c)
      refine E_ic (v := 0) dX12_takesE_304 (by decide) ?_
      refine L_zast (j := par) dX12_takesE_305 (by decide) sh_171 hx1 (by omega) (by decide) ?_
      rw [show vp_nar .boolean 0 = 0 from rfl]
      have f305 : PFr S (wr S 171 par 0) := PFr.w2 (Or.inr (Or.inr rfl))
      have k305 : MKr (wr S 171 par 0) b s e t := hk.sf (fun j h1 h2 => by rw [wr_ne (by decide)])
      have r305 : RPS (wr S 171 par 0) W Cd := hR.g (by rw [wr_ne (by decide)]) (by rw [wr_ne (by decide)]) (by rw [wr_ne (by decide)]) (by rw [wr_ne (by decide)])
      refine E_aload_n dX12_takesE_306 rfl ?_
      refine E_iload dX12_takesE_307 rfl ?_
      refine E_S1i sX12_240 dX12_takesE_309 (Nat.le_of_ble_eq_true rfl) (s_X12_rank ?_)
      refine E_V1v vX12_252_12 dX12_takesE_312 (Nat.le_of_ble_eq_true rfl) (by decide) (sh_159 _) (s_X12_settle (r := rkF (sgF t)) (rk_6 _) r305 (by omega) (fun S312 r312 f312 => ?_))
      refine E_aload_n dX12_takesE_315 rfl ?_
      refine L_get fX12_42 dX12_takesE_316 (by decide) sh_159 rfl ?_
      refine E_aload_n dX12_takesE_319 rfl ?_
      refine L_get fX12_237 dX12_takesE_320 (by decide) sh_159 rfl ?_
      rw [r312.1]
      refine E_iload dX12_takesE_323 rfl ?_
      refine L_iast (j := (stl (rkF (sgF t)) W Cd).1.length) dX12_takesE_325 (by decide) sh_170 rfl (by have := stl_len (r := rkF (sgF t)) W Cd; omega) (by decide) ?_
      refine E_aload_n dX12_takesE_326 rfl ?_
      refine E_dup dX12_takesE_327 rfl ?_
      refine L_get fX12_237 dX12_takesE_328 (by decide) sh_159 rfl ?_
      rw [wr_ne (by decide), r312.1]
      refine E_ic (v := 1) dX12_takesE_331 (by decide) ?_
      refine E_iadd dX12_takesE_332 ?_
      rw [nI_1]
      refine L_puti fX12_237 dX12_takesE_333 (by decide) sh_159 (Nat.le_of_ble_eq_true rfl) rfl ?_
      refine E_ic (v := 1) dX12_takesE_336 (by decide) ?_
      refine E_istore_n dX12_takesE_337 (by decide) ?_
      refine E_aload_n dX12_takesE_338 rfl ?_
      have g10 := stl_len (r := rkF (sgF t)) W Cd
      have f339 : PFr S (wr (wr S312 170 (stl (rkF (sgF t)) W Cd).1.length (sgF t)) 159 21 (nI ((stl (rkF (sgF t)) W Cd).1.length + 1))) := (f305.tr f312.p).tr ((PFr.w2 (Or.inr (Or.inl rfl))).tr (PFr.w (Or.inr (Or.inr rfl))))
      have k339 : MKr (wr (wr S312 170 (stl (rkF (sgF t)) W Cd).1.length (sgF t)) 159 21 (nI ((stl (rkF (sgF t)) W Cd).1.length + 1))) b s e t := k305.sf (fun j h1 h2 => by rw [wr_at, pk_un (by omega), wr_ne (by decide), f312.1 j (by omega) (by omega)])
      refine E_V0v vX12_234_12 dX12_takesE_339 (Nat.le_of_ble_eq_true rfl) (by decide) (sh_159 _) (s_X12_go (hT.pf f339) hb hn hto.2.1 k339.1 (k339.en hs.1 hs.2.1) (fun S339 k339n f339g => ?_))
      refine E_goto dX12_takesE_342 ?_
      refine E.loc (by exact ⟨rfl, rfl, rfl, rfl, trivial⟩) (K hz0 false (by simp [h3, h4]) S339 k339n (r312.push.gf f339g) ?_ ?_ (f339.tr f339g.p))
      · rw [f339g.1 19 (by omega), wr_at, pk_un (by decide), wr_ne (by decide), f312.1 19 (by omega) (by omega), wr_ne (by decide)]
      · rw [f339g.2 171 (by omega), wr_ne (by decide), wr_ne (by decide), f312.2 171 (by omega) (by omega), wr_at]
        rfl
end Ey
