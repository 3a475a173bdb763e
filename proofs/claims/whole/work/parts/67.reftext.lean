/-! the reference's loop, and how it ends -/
theorem rtk_z {s e : Nat} {t : Int32} (h : ¬ t = 258) : ¬ rtk s e t = 0 := by
  unfold rtk
  rw [if_neg h]
  repeat' split
  all_goals decide
theorem teO.same {S S' : SS} {te : Nat → Bool} {par : Nat} (h : teO S te par) (e : S' 171 = S 171) : teO S' te par := fun q hq => by rw [e]; exact h q hq
theorem teO.up {S S' : SS} {te : Nat → Bool} {par : Nat} (h : teO S te par) (e : S' 171 = upd (S 171) (par + 1) 0) : teO S' (teU te (par + 1) false) (par + 1) := fun q hq => by
  rw [e]
  by_cases c : q = par + 1
  · subst c
    rw [pk_us, teU, if_pos rfl]; rfl
  · rw [pk_un c, teU, if_neg c]
    exact h q (by omega)
theorem teO.at {S S' : SS} {te : Nat → Bool} {par : Nat} {v : Bool} (h : teO S te par) (e : S' 171 = upd (S 171) par (if v then 1 else 0)) : teO S' (teU te par v) par := fun q hq => by
  rw [e]
  by_cases c : q = par
  · subst c
    rw [pk_us, teU, if_pos rfl]
  · rw [pk_un c, teU, if_neg c]
    exact h q (by omega)
theorem teO.le {S : SS} {te : Nat → Bool} {par p : Nat} (h : teO S te par) (hp : p ≤ par) : teO S te p := fun q hq => h q (by omega)
/-- how an expression ends well -/
def FinO (n key : Nat) (o : OU) : Prop := ∀ C' a', o.1 = some (C', a') → dpL C' = some 1 ∧ okL a' C' ∧ cOk key C' ∧ 2 * a' + 2 ≤ n ∧ C'.length ≤ n ∧ 1 ≤ a'
theorem op_0 : ∀ (W C : List Int32), opF W = 0 → (stl 0 W C).1 = []
  | [], C, _ => rfl
  | w :: W, C, h => by
    rw [opF] at h
    have c : ¬ w = -11 := fun z => by rw [if_pos z] at h; omega
    rw [stl, if_neg (fun z => z.elim c (fun y => by omega))]
    exact op_0 W (w :: C) (by omega)
theorem Rn_fin {b : Nat → Int32} {n key : Nat} (hb : byOk b n) : ∀ (f : Nat) (w : Bool) (par nots : Nat) (W C : List Int32) (at_ : Nat) (te : Nat → Bool) (s e : Nat) (t : Int32) (o : OU), Rn b n key f (w, par, nots, W, C, at_, te, s, e, t) o → PIn b n key (w, par, nots, W, C, at_, te, s, e, t) → FinO n key o
  | 0, w, par, nots, W, C, at_, te, s, e, t, o, hr, hp => by
    rw [Rn] at hr
    exact hr.elim
  | f + 1, w, par, nots, W, C, at_, te, s, e, t, o, hr, hp => by
    rw [Rn] at hr
    have no : o = (none, s) → FinO n key o := fun z C' a' h => by rw [z] at h; cases h
    by_cases c0 : w = false ∧ t = 258
    · rw [if_pos c0] at hr
      obtain ⟨rfl, rfl⟩ := c0
      by_cases p0 : par = 0
      · rw [if_pos p0] at hr
        intro C' a' h
        rw [hr] at h
        cases h
        obtain ⟨h1, h2, h3, h4, h5, h6, h7, h8, h9, h10, h11, h12, h13, h14⟩ := hp
        have hl := stl_len (r := 0) W C
        obtain ⟨d1, d2, d3⟩ := stl_dp (r := 0) (m := at_) W C h9 h11 h12 h13
        have ez := op_0 W C (by omega)
        rw [ez] at d1 d2
        have h1a := h1.1
        have h1b := h1.2.1
        simp only [Bool.false_eq_true, if_false] at h4
        exact ⟨d1, d3, stl_c W C h9 h10, by omega, by omega, d2⟩
      · rw [if_neg p0] at hr
        exact no hr
    · rw [if_neg c0] at hr
      by_cases cw : w = true
      · subst cw
        rw [if_pos rfl] at hr
        by_cases q1 : t = 33 ∧ nots < 8
        · rw [if_pos q1] at hr
          exact Rn_fin hb f _ _ _ _ _ _ _ _ _ _ o hr (PIn_not hb hp (by rw [q1.1]; decide) q1.2)
        · rw [if_neg q1] at hr
          by_cases q2 : t = 40 ∧ par < 8
          · rw [if_pos q2] at hr
            exact Rn_fin hb f _ _ _ _ _ _ _ _ _ _ o hr (PIn_open hb hp (by rw [q2.1]; decide) q2.2)
          · rw [if_neg q2] at hr
            rcases hpa : paF b key s e t with _ | c
            · rw [hpa] at hr
              exact no hr
            · rw [hpa] at hr
              exact Rn_fin hb f _ _ _ _ _ _ _ _ _ _ o hr (PIn_part hb hp hpa)
      · have ew : w = false := by simpa using cw
        subst ew
        have t8 : ¬ t = 258 := fun z => c0 ⟨rfl, z⟩
        rw [if_neg cw] at hr
        by_cases q1 : t = 41 ∧ 0 < par
        · rw [if_pos q1] at hr
          exact Rn_fin hb f _ _ _ _ _ _ _ _ _ _ o hr (PIn_close hb hp t8 q1.2)
        · rw [if_neg q1] at hr
          by_cases q2 : sgF t = 0 ∨ (rkF (sgF t) = 3 ∧ te par = true)
          · rw [if_pos q2] at hr
            exact no hr
          · rw [if_neg q2] at hr
            exact Rn_fin hb f _ _ _ _ _ _ _ _ _ _ o hr (PIn_op hb hp t8 (fun z => q2 (Or.inl z)))
section Ez
variable {Θ : Th} {d : Nat} {S : SS} {b : Nat → Int32} {n : Nat}
theorem l_X12_takesE {Q : Int32 → HP → Prop} (hb : byOk b n) (hn : n ≤ 96) {key : Nat} (h3 : key < 3) : ∀ (f : Nat) (w : Bool) (par nots : Nat) (W Cd : List Int32) (at_ : Nat) (te : Nat → Bool) (s e : Nat) (t : Int32) (o : OU) (S : SS) (x1 x2 x3 : Int32), Rn b n key f (w, par, nots, W, Cd, at_, te, s, e, t) o → PIn b n key (w, par, nots, W, Cd, at_, te, s, e, t) → MT S b n → MKr S b s e t → RPS S W Cd → S 159 19 = nI at_ → teO S te par → S 159 14 = nI key → x1 = nI par → x2 = nI nots → x3 = (if w then 1 else 0) → (∀ C' a', o.1 = some (C', a') → ∀ S', S' 159 18 = nI C'.length → arL (S' 169) C' → S' 159 19 = nI a' → PFr S S' → Q 1 (lay Θ S')) → (o.1 = none → ∀ S', S' 159 10 = nI o.2 → PFr S S' → Q 0 (lay Θ S')) → E Θ (d + 3) 0 0 yX12_takesE cX12_takesE 5 (some .boolean) 0 0 183 (lay Θ S) 28 [(3, .int x3), (2, .int x2), (1, .int x1), (0, .ref (tb Θ + 159))] [] (Qi Q) := by
  intro f
  induction f with
  | zero =>
    intro w par nots W Cd at_ te s e t o S x1 x2 x3 hr
    rw [Rn] at hr
    exact hr.elim
  | succ f ih =>
    intro w par nots W Cd at_ te s e t o S x1 x2 x3 hr hp hT hk hR hat hte hkey hx1 hx2 hx3 hq1 hq0
    rw [Rn] at hr
    have hto := hp.1
    have hl96 := hp.2.2.1
    have hat2 := hp.2.2.2.1
    have hpar := hp.2.2.2.2.1
    have h8 := hp.2.2.2.2.2.1
    have h8' := hp.2.2.2.2.2.2.2.1
    have hlt := hto.2.2.2.1
    have hen := hto.2.1
    have hse := hto.1
    by_cases c0 : w = false ∧ t = 258
    · rw [if_pos c0] at hr
      obtain ⟨rfl, rfl⟩ := c0
      refine E_iload_n dX12_takesE_28 rfl ?_
      refine E_if_ne dX12_takesE_29 (fun c => absurd hx3 c) (fun _ => ?_)
      refine E_aload_n dX12_takesE_32 rfl ?_
      refine L_get fX12_219 dX12_takesE_33 (by decide) sh_159 rfl ?_
      rw [hk.2.2.1]
      refine E_if_eq dX12_takesE_36 (fun _ => ?_) (fun c => absurd rfl c)
      refine t345_X12 hR (by omega) h8 hx1 (fun p0 S9 r9 a9 f9 => ?_) (fun p0 S9 a9 f9 => ?_)
      · rw [if_pos p0] at hr
        exact hq1 _ _ hr S9 r9.2.1 r9.2.2.2 (a9.trans hat) f9
      · rw [if_neg p0] at hr
        rw [hr] at hq0
        exact hq0 rfl S9 (a9.trans hk.2.1) f9
    · rw [if_neg c0] at hr
      by_cases cw : w = true
      · subst cw
        rw [if_pos rfl] at hr
        refine E_iload_n dX12_takesE_28 rfl ?_
        refine E_if_ne dX12_takesE_29 (fun _ => ?_) (fun c => absurd c (by rw [hx3]; decide))
        refine E_iload_n dX12_takesE_39 rfl ?_
        refine E_if_eq dX12_takesE_40 (fun c => absurd c (by rw [hx3]; decide)) (fun _ => ?_)
        refine t43_X12 hk hto h8 h8' hx1 hx2 (fun e33 l8 => ?_) (fun e40 p8 => ?_) (fun n1 n2 => ?_)
        · have t8 : ¬ t = 258 := by rw [e33]; decide
          have := hlt t8
          rw [if_pos ⟨e33, l8⟩] at hr
          refine t66_X12 hT hb hn hk hto hR (by omega) (by rw [e33]; exact sg_33) (fun S9 k9 r9 a9 b9 f9 => ?_)
          exact ih _ _ _ _ _ _ _ _ _ _ o S9 _ _ _ hr (PIn_not hb hp t8 l8) (hT.pf f9) k9 r9 (a9.trans hat) (hte.same b9) ((f9.1 14 (by omega) (by omega) (by omega) (by omega)).trans hkey) hx1 rfl hx3 (fun C' a' ho S' g1 g2 g3 g4 => hq1 C' a' ho S' g1 g2 g3 (f9.tr g4)) (fun ho S' g1 g4 => hq0 ho S' g1 (f9.tr g4))
        · have t8 : ¬ t = 258 := by rw [e40]; decide
          have := hlt t8
          rw [if_neg (fun z => absurd (z.1.symm.trans e40) (by decide)), if_pos ⟨e40, p8⟩] at hr
          refine t120_X12 hT hb hn hk hto hR (by omega) (by rw [e40]; exact sg_40) p8 hx1 (fun S9 k9 r9 a9 b9 f9 => ?_)
          exact ih _ _ _ _ _ _ _ _ _ _ o S9 _ _ _ hr (PIn_open hb hp t8 p8) (hT.pf f9) k9 r9 (a9.trans hat) (hte.up b9) ((f9.1 14 (by omega) (by omega) (by omega) (by omega)).trans hkey) rfl rfl hx3 (fun C' a' ho S' g1 g2 g3 g4 => hq1 C' a' ho S' g1 g2 g3 (f9.tr g4)) (fun ho S' g1 g4 => hq0 ho S' g1 (f9.tr g4))
        · rw [if_neg n1, if_neg n2] at hr
          simp only [if_true] at hat2
          refine t158_X12 hT hb hn hk hto hkey h3 hR hat (fun t8 => by have := hlt t8; omega) (by omega) (fun h0 => ?_) (fun c hc S9 k9 r9 a9 b9 f9 => ?_)
          · rw [h0] at hr
            rw [hr] at hq0
            exact hq0 rfl S hk.2.1 PFr.rf
          · rw [hc] at hr
            exact ih _ _ _ _ _ _ _ _ _ _ o S9 _ _ _ hr (PIn_part hb hp hc) (hT.pf f9) k9 r9 a9 (hte.same b9) ((f9.1 14 (by omega) (by omega) (by omega) (by omega)).trans hkey) hx1 rfl rfl (fun C' a' ho S' g1 g2 g3 g4 => hq1 C' a' ho S' g1 g2 g3 (f9.tr g4)) (fun ho S' g1 g4 => hq0 ho S' g1 (f9.tr g4))
      · have ew : w = false := by simpa using cw
        subst ew
        rw [if_neg cw] at hr
        refine E_iload_n dX12_takesE_28 rfl ?_
        refine E_if_ne dX12_takesE_29 (fun c => absurd hx3 c) (fun _ => ?_)
        refine E_aload_n dX12_takesE_32 rfl ?_
        refine L_get fX12_219 dX12_takesE_33 (by decide) sh_159 rfl ?_
        rw [hk.2.2.1]
        refine E_if_eq dX12_takesE_36 (fun c => absurd c (rtk_z (fun z => c0 ⟨rfl, z⟩))) (fun _ => ?_)
        refine E_iload_n dX12_takesE_39 rfl ?_
        refine E_if_eq dX12_takesE_40 (fun _ => ?_) (fun c => absurd hx3 c)
        have t8 : ¬ t = 258 := fun z => c0 ⟨rfl, z⟩
        have hlt := hlt t8
        refine t180_X12 hk hto h8 hx1 (fun e41 p0 => ?_) (fun n1 => ?_)
        · rw [if_pos ⟨e41, p0⟩] at hr
          refine t201_X12 hT hb hn hk hto hR (by omega) (by rw [e41]; exact sg_41) (by omega) p0 hx1 (fun S9 k9 r9 a9 b9 f9 => ?_)
          exact ih _ _ _ _ _ _ _ _ _ _ o S9 _ _ _ hr (PIn_close hb hp t8 p0) (hT.pf f9) k9 r9 (a9.trans hat) ((hte.same b9).le (by omega)) ((f9.1 14 (by omega) (by omega) (by omega) (by omega)).trans hkey) rfl rfl hx3 (fun C' a' ho S' g1 g2 g3 g4 => hq1 C' a' ho S' g1 g2 g3 (f9.tr g4)) (fun ho S' g1 g4 => hq0 ho S' g1 (f9.tr g4))
        · rw [if_neg n1] at hr
          refine t237_X12 hT hb hn hk hto hR (by omega) h8 (hte par (Nat.le_refl _)) hx1 (fun h0 => ?_) (fun q2 v hv S9 k9 r9 a9 b9 f9 => ?_)
          · rw [if_pos h0] at hr
            rw [hr] at hq0
            exact hq0 rfl S hk.2.1 PFr.rf
          · rw [if_neg q2, hv] at hr
            exact ih _ _ _ _ _ _ _ _ _ _ o S9 _ _ _ hr (PIn_op hb hp t8 (fun z => q2 (Or.inl z))) (hT.pf f9) k9 r9 (a9.trans hat) (hte.at b9) ((f9.1 14 (by omega) (by omega) (by omega) (by omega)).trans hkey) hx1 hx2 rfl (fun C' a' ho S' g1 g2 g3 g4 => hq1 C' a' ho S' g1 g2 g3 (f9.tr g4)) (fun ho S' g1 g4 => hq0 ho S' g1 (f9.tr g4))
end Ez
