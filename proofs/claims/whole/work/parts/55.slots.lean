/-! slots: lay, ask, item, rest on both sides -/
abbrev SL : Type := (Nat → Int32) × (Nat → Int32) × (Nat → Int32) × (Nat → Nat → Int32)
def RSl (S : SS) (L : SL) : Prop := ∀ i, i < 5 → S 177 i = L.1 i ∧ S 178 i = L.2.1 i ∧ S 179 i = L.2.2.1 i ∧ ∀ k, k < 24 → S 180 (24 * i + k) = L.2.2.2 i k
/-- what a slot's passenger, row or number is to the class -/
def sl1 (S : SS) (L : SL) (i : Nat) : Prop := ∃ c t, c < 6 ∧ t < 100 ∧ S (139 + 4 * i) 0 = nI c ∧ S (139 + 4 * i) 2 = nI t ∧ L.2.1 i = nI c ∧ L.2.2.1 i = woF (nI c) (nI t)
def sl2 (S : SS) (L : SL) (i : Nat) : Prop := ∃ n, n ≤ 24 ∧ S (141 + 4 * i) 1 = nI n ∧ L.2.1 i = nI n ∧ ∀ k, k < 24 → S (141 + 4 * i + 1) k = L.2.2.2 i k
def CSl (S : SS) (L : SL) : Prop := ∀ i, i < 5 → S 6 i = L.1 i ∧ (L.1 i = 1 → sl1 S L i) ∧ (L.1 i = 2 → sl2 S L i) ∧ (L.1 i = 3 → S 9 i = L.2.1 i)
/-- the reference's own: what a row's size is -/
def OSl (L : SL) : Prop := ∀ i, i < 5 → (∃ t, t < 4 ∧ L.1 i = nI t) ∧ (L.1 i = 2 → ∃ n, n ≤ 24 ∧ L.2.1 i = nI n)
def slSet (L : SL) (i : Nat) (t a b : Int32) (c : Nat → Int32) : SL := (fun j => if j = i then t else L.1 j, fun j => if j = i then a else L.2.1 j, fun j => if j = i then b else L.2.2.1 j, fun j => if j = i then c else L.2.2.2 j)
def layR (L : SL) (X : SH) (v : WV) (x y z : Int32) : Int32 × SL := (ix x 5).elim (bad, L) fun i => if 0 ≤ y ∧ y ≤ 3 then (if y = 1 then (ix z (mN v)).elim (bad, L) fun p => (L.1 i, slSet L i 1 (v (15 + 9 * p)) (woF (v (15 + 9 * p)) (v (17 + 9 * p))) (L.2.2.2 i)) else if y = 2 then (ix z 4).elim (bad, L) fun s => (if X.1 s < 0 then (nothC, L) else (L.1 i, slSet L i 2 (nI (X.2.1 s)) 0 (X.2.2 s))) else (L.1 i, slSet L i y z 0 (L.2.2.2 i))) else (bad, L)
def askR (L : SL) (x y : Int32) : Int32 := (ix x 5).elim bad fun i => (ix y 6).elim bad fun _ => if L.1 i = 0 then nothC else if L.1 i = 1 ∧ unF (L.2.1 i) y then L.2.2.1 i else kindC
def itemR (L : SL) (x y : Int32) : Int32 := (ix x 5).elim bad fun i => if L.1 i = 0 then nothC else if L.1 i = 2 then (ix y (L.2.1 i).toNatClampNeg).elim indexC fun k => (if L.2.2.2 i k = nobody then kindC else L.2.2.2 i k) else kindC
def restR (L : SL) (x y : Int32) : Int32 := (ix x 5).elim bad fun i => if L.1 i = 0 then nothC else if L.1 i = 3 then (if y = 0 then noo else L.2.1 i - L.2.1 i / y * y) else kindC
theorem sl_eq {L : SL} {i : Nat} {t a b : Int32} {c : Nat → Int32} : (slSet L i t a b c).1 i = t ∧ (slSet L i t a b c).2.1 i = a ∧ (slSet L i t a b c).2.2.1 i = b ∧ (slSet L i t a b c).2.2.2 i = c := by
  simp only [slSet, if_pos]
  exact ⟨trivial, trivial, trivial, trivial⟩
theorem sl_ne {L : SL} {i j : Nat} {t a b : Int32} {c : Nat → Int32} (h : j ≠ i) : (slSet L i t a b c).1 j = L.1 j ∧ (slSet L i t a b c).2.1 j = L.2.1 j ∧ (slSet L i t a b c).2.2.1 j = L.2.2.1 j ∧ (slSet L i t a b c).2.2.2 j = L.2.2.2 j := by
  simp only [slSet, if_neg h]
  exact ⟨trivial, trivial, trivial, trivial⟩
theorem OSl.set {L : SL} {i tn : Nat} {t a b : Int32} {c : Nat → Int32} (h : OSl L) (ht : tn < 4) (et : t = nI tn) (h2 : t = 2 → ∃ n, n ≤ 24 ∧ a = nI n) : OSl (slSet L i t a b c) := by
  intro j hj
  by_cases e : j = i
  · subst e
    obtain ⟨e1, e2, -, -⟩ := sl_eq (L := L) (i := j) (t := t) (a := a) (b := b) (c := c)
    rw [e1, e2]
    exact ⟨⟨tn, ht, et⟩, h2⟩
  · obtain ⟨e1, e2, -, -⟩ := sl_ne (L := L) (t := t) (a := a) (b := b) (c := c) e
    rw [e1, e2]
    exact h j hj
theorem RSl.set {S S' : SS} {L : SL} {i : Nat} {t a b : Int32} {c : Nat → Int32} (h : RSl S L) (hi : i < 5) (h1 : S' 177 = upd (S 177) i t) (h2 : S' 178 = upd (S 178) i a) (h3 : S' 179 = upd (S 179) i b) (h4 : ∀ k, k < 24 → S' 180 (24 * i + k) = c k) (h5 : ∀ j, (j < 24 * i ∨ 24 * i + 24 ≤ j) → S' 180 j = S 180 j) : RSl S' (slSet L i t a b c) := by
  intro j hj
  rw [h1, h2, h3]
  by_cases e : j = i
  · subst e
    obtain ⟨e1, e2, e3, e4⟩ := sl_eq (L := L) (i := j) (t := t) (a := a) (b := b) (c := c)
    rw [e1, e2, e3, e4, pk_us, pk_us, pk_us]
    exact ⟨rfl, rfl, rfl, h4⟩
  · obtain ⟨e1, e2, e3, e4⟩ := sl_ne (L := L) (t := t) (a := a) (b := b) (c := c) e
    rw [e1, e2, e3, e4, pk_un e, pk_un e, pk_un e]
    obtain ⟨x, y, z, w⟩ := h j hj
    exact ⟨x, y, z, fun k hk => by rw [h5 _ (by omega)]; exact w k hk⟩
/-- the class's slot i is laid anew -/
theorem CSl.set {S S' : SS} {L : SL} {i : Nat} {t a b : Int32} {c : Nat → Int32} (h : CSl S L) (hi : i < 5) (h6 : S' 6 = upd (S 6) i t) (h9 : ∀ j, j ≠ i → S' 9 j = S 9 j) (hf : ∀ k, (139 ≤ k ∧ k < 159) → ¬ (139 + 4 * i ≤ k ∧ k < 143 + 4 * i) → S' k = S k) (n1 : t = 1 → sl1 S' (slSet L i t a b c) i) (n2 : t = 2 → sl2 S' (slSet L i t a b c) i) (n3 : t = 3 → S' 9 i = a) : CSl S' (slSet L i t a b c) := by
  intro j hj
  rw [h6]
  by_cases e : j = i
  · subst e
    obtain ⟨e1, e2, -, -⟩ := sl_eq (L := L) (i := j) (t := t) (a := a) (b := b) (c := c)
    rw [e1, e2, pk_us]
    exact ⟨rfl, n1, n2, n3⟩
  · obtain ⟨e1, e2, e3, e4⟩ := sl_ne (L := L) (t := t) (a := a) (b := b) (c := c) e
    obtain ⟨x, y, z, w⟩ := h j hj
    have f1 : S' (139 + 4 * j) = S (139 + 4 * j) := hf _ (by omega) (by omega)
    have f2 : S' (141 + 4 * j) = S (141 + 4 * j) := hf _ (by omega) (by omega)
    have f3 : S' (141 + 4 * j + 1) = S (141 + 4 * j + 1) := hf _ (by omega) (by omega)
    rw [e1, e2, pk_un e, h9 j e]
    refine ⟨x, fun g => ?_, fun g => ?_, w⟩
    · obtain ⟨cc, tt, a1, a2, a3, a4, a5, a6⟩ := y g
      exact ⟨cc, tt, a1, a2, by rw [f1]; exact a3, by rw [f1]; exact a4, by rw [e2]; exact a5, by rw [e3]; exact a6⟩
    · obtain ⟨n, a1, a2, a3, a4⟩ := z g
      exact ⟨n, a1, by rw [f2]; exact a2, by rw [e2]; exact a3, fun k hk => by rw [f3, e4]; exact a4 k hk⟩
theorem rem_m1 (x : Int32) : x - x / (-1) * (-1) = 0 := by
  have e : x / (-1) = -x := by
    apply Int32.toInt_inj.mp
    rw [Int32.toInt_div, show (-1 : Int32).toInt = -1 from rfl, Int.tdiv_neg, Int.tdiv_one, Int32.toInt_neg]
  rw [e, Int32.mul_neg, Int32.mul_one, Int32.neg_neg, Int32.sub_self]
def SLF (S S' : SS) : Prop := ∀ k, k ≠ 6 → k ≠ 9 → (k < 139 ∨ 159 ≤ k) → S' k = S k
theorem SLF.rf {S : SS} : SLF S S := fun _ _ _ _ => rfl
def SMF (S S' : SS) : Prop := ∀ k, k ≠ 177 → k ≠ 178 → k ≠ 179 → k ≠ 180 → S' k = S k
theorem SMF.rf {S : SS} : SMF S S := fun _ _ _ _ _ => rfl
theorem isP_l {i : Nat} (h : i < 5) : isP (139 + 4 * i) := Or.inr ⟨i, h, rfl⟩
section Sl
variable {Θ : Th} {d : Nat} {S : SS} {v : WV}
theorem s_X5_becomeAs {Q : HP → Prop} {a b : Nat} (ha : isR a) (hb : isR b) (hab : a ≠ b) (hab1 : a ≠ b + 1) (hq : ∀ S', S' a 0 = S b 0 → S' a 1 = S b 1 → (∀ j, j < 24 → S' (a + 1) j = S (b + 1) j) → (∀ k, k ≠ a → k ≠ a + 1 → S' k = S k) → Q (lay Θ S')) : C Θ (d + 1) 0 0 yX5_becomeAs cX5_becomeAs 2 none [.ref (tb Θ + a), .ref (tb Θ + b)] 183 (lay Θ S) (Qv Q) := by
  refine C_of rfl rfl (Nat.le_of_ble_eq_true rfl) ?_
  refine E_aload_n dX5_becomeAs_0 rfl ?_
  refine E_aload_n dX5_becomeAs_1 rfl ?_
  refine L_get fX5_9 dX5_becomeAs_2 (by have := (hb).lt; omega) (sh_R hb) rfl ?_
  refine L_puti fX5_9 dX5_becomeAs_5 (by have := (ha).lt; omega) (sh_R ha) (Nat.le_of_ble_eq_true rfl) rfl ?_
  refine E_aload_n dX5_becomeAs_8 rfl ?_
  refine E_aload_n dX5_becomeAs_9 rfl ?_
  refine L_get fX5_19 dX5_becomeAs_10 (by have := (hb).lt; omega) (sh_R hb) rfl ?_
  refine L_puti fX5_19 dX5_becomeAs_13 (by have := (ha).lt; omega) (sh_R ha) (Nat.le_of_ble_eq_true rfl) rfl ?_
  refine E_aload_n dX5_becomeAs_16 rfl ?_
  refine L_get fX5_15 dX5_becomeAs_17 (by have := (hb).lt; omega) (sh_R hb) rfl ?_
  refine E_ic (v := 0) dX5_becomeAs_20 (by decide) ?_
  refine E_aload_n dX5_becomeAs_21 rfl ?_
  refine L_get fX5_15 dX5_becomeAs_22 (by have := (ha).lt; omega) (sh_R ha) rfl ?_
  refine E_ic (v := 0) dX5_becomeAs_25 (by decide) ?_
  refine E_bipush (v := 24) dX5_becomeAs_26 (by decide) ?_
  refine L_copy (sp := 0) (dp := 0) (len := 24) mX5_28 dX5_becomeAs_28 (Nat.le_of_ble_eq_true rfl) (by have := hb.lt; omega) (sh_Rp hb) (by have := ha.lt; omega) (sh_Rp ha) rfl rfl rfl (by decide) (by decide) (by decide) (by decide) ?_
  refine E_vret dX5_becomeAs_31 rfl rfl ?_
  refine hq _ ?_ ?_ (fun j hj => ?_) (fun k k1 k2 => ?_)
  · rw [vu_ne (by omega), wr_at, pk_un (by decide), wr_at, pk_us]
  · rw [vu_ne (by omega), wr_at, pk_us, wr_ne (Ne.symm hab)]
  · rw [vu_at, cpy_at hj, wr_ne (Ne.symm hab1), wr_ne (Ne.symm hab1)]
  · rw [vu_ne k2, wr_ne k1, wr_ne k1]
theorem s_X11_lay {Q : Int32 → HP → Prop} (hR : WRep S 20 v) {m : Nat} (hm : v 1 = nI m) (hmm : mN v = m) (hm9 : m ≤ 9) (hpa : ∀ p, p < m → paOk v p) {X : SH} (hX : CSh S X) (oX : OSh X) {L : SL} (hL : CSl S L) {x y z : Int32} (hq : ∀ S', CSl S' (layR L X v x y z).2 → SLF S S' → Q (layR L X v x y z).1 (lay Θ S')) : C Θ (d + 2) 0 0 yX11_lay cX11_lay 5 (some .int) [.ref (tb Θ + 0), .int x, .int y, .int z] 183 (lay Θ S) (Qi Q) := by
  refine C_of rfl rfl (Nat.le_of_ble_eq_true rfl) ?_
  refine E_iload_n dX11_lay_0 rfl ?_
  refine E_S1i sX11_315 dX11_lay_1 (Nat.le_of_ble_eq_true rfl) (s_X11_isSlot (fun g1 => ?_) (fun g1 => ?_))
  · obtain ⟨i, hi, ei, ii⟩ := ix_some (by omega) g1
    refine E_if_eq dX11_lay_4 (fun c => absurd c (by decide)) (fun _ => ?_)
    refine E_iload_n dX11_lay_7 rfl ?_
    refine E_ic (v := 0) dX11_lay_8 (by decide) ?_
    refine E_ic (v := 3) dX11_lay_9 (by decide) ?_
    refine E_S3i sX11_145 dX11_lay_10 (Nat.le_of_ble_eq_true rfl) (s_X11_within (fun g2a g2b => ?_) (fun g2 => ?_))
    · refine E_if_ne dX11_lay_13 (fun _ => ?_) (fun c => absurd c (by decide))
      have hm1 : S 20 1 = nI m := (hR.1 (1, 1) (by decide)).trans hm
      by_cases n1 : y = 1
      · have ey := n1
        refine E_iload_n dX11_lay_19 rfl ?_
        refine E_ic (v := 1) dX11_lay_20 (by decide) ?_
        refine E_icmp_ne dX11_lay_21 (fun c => absurd ey c) (fun _ => ?_)
        refine E_aload_n dX11_lay_24 rfl ?_
        refine E_iload_n dX11_lay_25 rfl ?_
        refine E_V1i vX11_118_11 dX11_lay_26 (Nat.le_of_ble_eq_true rfl) (by decide) (sh_0 _) (s_X11_isOne hm1 hm9 (fun g3 => ?_) (fun g3 => ?_))
        · obtain ⟨p, hp, ep, ip⟩ := ix_some (by omega) g3
          refine E_if_eq dX11_lay_29 (fun c => absurd c (by decide)) (fun _ => ?_)
          refine E_iload_n dX11_lay_32 rfl ?_
          refine E_ic (v := 2) dX11_lay_33 (by decide) ?_
          refine E_icmp_ne dX11_lay_34 (fun _ => ?_) (fun c => absurd c (by rw [ey]; decide))
          refine E_iload_n dX11_lay_47 rfl ?_
          refine E_ic (v := 2) dX11_lay_48 (by decide) ?_
          refine E_icmp_ne dX11_lay_49 (fun _ => ?_) (fun c => absurd c (by rw [ey]; decide))
          refine E_iload_n dX11_lay_67 rfl ?_
          refine E_ic (v := 1) dX11_lay_68 (by decide) ?_
          refine E_icmp_ne dX11_lay_69 (fun c => absurd ey c) (fun _ => ?_)
          refine E_aload_n dX11_lay_72 rfl ?_
          refine L_get fX11_40 dX11_lay_73 (by decide) sh_0 rfl ?_
          refine E_iload_n dX11_lay_76 rfl ?_
          refine L_aald (j := i) dX11_lay_77 (by decide) sh_7 rfl ei hi (by decide) (if_pos hi) ?_
          refine E_aload_n dX11_lay_78 rfl ?_
          refine L_get fX11_83 dX11_lay_79 (by decide) sh_0 rfl ?_
          refine L_get fX11_111 dX11_lay_82 (by have := (isW20).lt; omega) (sh_W isW20) rfl ?_
          refine E_iload_n dX11_lay_85 rfl ?_
          refine L_aald (j := p) dX11_lay_86 (by have := (isW20).lt; omega) (sh_Wc isW20) rfl ep (by omega) (by decide) (if_pos (by omega)) ?_
          refine E_V1v vX11_318_4 dX11_lay_87 (Nat.le_of_ble_eq_true rfl) (by have := ((isP_l hi)).lt; omega) ((sh_P (isP_l hi)) _) (s_X4_becomeAs (isP_l hi) (isW20.p (i := p) (by omega)) (by omega) (by omega) (by omega) (fun S87 a87 b87 f87 => ?_))
          refine E_goto dX11_lay_90 ?_
          refine E_aload_n dX11_lay_123 rfl ?_
          refine L_get fX11_34 dX11_lay_124 (by decide) sh_0 rfl ?_
          refine E_iload_n dX11_lay_127 rfl ?_
          refine L_iald (j := i) dX11_lay_128 (by decide) sh_6 ei hi (by decide) ?_
          refine E_istore dX11_lay_129 (by decide) ?_
          refine E_aload_n dX11_lay_131 rfl ?_
          refine L_get fX11_34 dX11_lay_132 (by decide) sh_0 rfl ?_
          refine E_iload_n dX11_lay_135 rfl ?_
          refine E_iload_n dX11_lay_136 rfl ?_
          refine L_iast (j := i) dX11_lay_137 (by decide) sh_6 ei hi (by decide) ?_
          refine E_iload dX11_lay_138 rfl ?_
          refine E_iret dX11_lay_140 rfl rfl ?_
          rw [layR, ii, Option.elim, if_pos ⟨g2a, g2b⟩, if_pos ey, hmm, ip, Option.elim] at hq
          obtain ⟨⟨c, hc, ec⟩, ⟨t, ht, et⟩, -, -⟩ := hpa p hp
          rw [kdF] at ec
          rw [tmF] at et
          have k0 : S87 (139 + 4 * i) 0 = nI c := by rw [a87 0 (by omega), (hR.2.2.2 p (by omega)).1, ec]
          have k2 : S87 (139 + 4 * i) 2 = nI t := by rw [a87 2 (by omega), (hR.2.2.2 p (by omega)).2.2.1, et]
          rw [f87 6 (by omega) (by omega), (hL i hi).1, ey]
          refine hq _ (hL.set hi ?_ (fun j hj => ?_) (fun k h1 h2 => ?_) (fun _ => ?_) (fun h => absurd h (by decide)) (fun h => absurd h (by decide))) (fun k h1 h2 h3 => ?_)
          · rw [wr_at, f87 6 (by omega) (by omega)]
          · rw [wr_ne (by decide), f87 9 (by omega) (by omega)]
          · rw [wr_ne (by omega), f87 k (by omega) (by omega)]
          · obtain ⟨-, e2, e3, -⟩ := sl_eq (L := L) (i := i) (t := 1) (a := v (15 + 9 * p)) (b := woF (v (15 + 9 * p)) (v (17 + 9 * p))) (c := L.2.2.2 i)
            exact ⟨c, t, hc, ht, by rw [wr_ne (by omega)]; exact k0, by rw [wr_ne (by omega)]; exact k2, e2.trans ec, by rw [e3, ec, et]⟩
          · rw [wr_ne h1, f87 k (by omega) (by omega)]
        · have ip := ix_none (by omega) g3
          refine E_if_eq dX11_lay_29 (fun _ => ?_) (fun c => absurd (by decide) c)
          refine E_ldc dX11_lay_44 kX11_105 ?_
          refine E_iret dX11_lay_46 rfl rfl ?_
          rw [layR, ii, Option.elim, if_pos ⟨g2a, g2b⟩, if_pos ey, hmm, ip] at hq
          exact hq S hL SLF.rf
      by_cases n2 : y = 2
      · have ey := n2
        refine E_iload_n dX11_lay_19 rfl ?_
        refine E_ic (v := 1) dX11_lay_20 (by decide) ?_
        refine E_icmp_ne dX11_lay_21 (fun _ => ?_) (fun c => absurd c (by rw [ey]; decide))
        refine E_iload_n dX11_lay_32 rfl ?_
        refine E_ic (v := 2) dX11_lay_33 (by decide) ?_
        refine E_icmp_ne dX11_lay_34 (fun c => absurd ey c) (fun _ => ?_)
        refine E_iload_n dX11_lay_37 rfl ?_
        refine E_S1i sX11_237 dX11_lay_38 (Nat.le_of_ble_eq_true rfl) (s_X11_isSheet (fun g4 => ?_) (fun g4 => ?_))
        · obtain ⟨s, hs, es, is⟩ := ix_some (by omega) g4
          refine E_if_ne dX11_lay_41 (fun _ => ?_) (fun c => absurd c (by decide))
          refine E_iload_n dX11_lay_47 rfl ?_
          refine E_ic (v := 2) dX11_lay_48 (by decide) ?_
          refine E_icmp_ne dX11_lay_49 (fun c => absurd ey c) (fun _ => ?_)
          refine E_aload_n dX11_lay_52 rfl ?_
          refine L_get fX11_30 dX11_lay_53 (by decide) sh_0 rfl ?_
          refine E_iload_n dX11_lay_56 rfl ?_
          refine L_aald (j := s) dX11_lay_57 (by decide) sh_5 rfl es hs (by decide) (if_pos hs) ?_
          refine E_V0i vX11_240_5 dX11_lay_58 (Nat.le_of_ble_eq_true rfl) (by have := ((isR_s hs)).lt; omega) ((sh_R (isR_s hs)) _) (s_X5_isMissing (isR_s hs) (fun gm => ?_) (fun gm => ?_))
          · have gm : X.1 s < 0 := (so_neg oX hs).mpr ((hX s hs).1.symm.trans gm)
            refine E_if_eq dX11_lay_61 (fun c => absurd c (by decide)) (fun _ => ?_)
            refine E_ldc dX11_lay_64 kX11_244 ?_
            refine E_iret dX11_lay_66 rfl rfl ?_
            rw [layR, ii, Option.elim, if_pos ⟨g2a, g2b⟩, if_neg (by rw [ey]; decide), if_pos ey, is, Option.elim, if_pos gm] at hq
            exact hq S hL SLF.rf
          · have gm : ¬ X.1 s < 0 := fun h => gm ((hX s hs).1.trans ((so_neg oX hs).mp h))
            refine E_if_eq dX11_lay_61 (fun _ => ?_) (fun c => absurd (by decide) c)
            refine E_iload_n dX11_lay_67 rfl ?_
            refine E_ic (v := 1) dX11_lay_68 (by decide) ?_
            refine E_icmp_ne dX11_lay_69 (fun _ => ?_) (fun c => absurd c (by rw [ey]; decide))
            refine E_iload_n dX11_lay_93 rfl ?_
            refine E_ic (v := 2) dX11_lay_94 (by decide) ?_
            refine E_icmp_ne dX11_lay_95 (fun c => absurd ey c) (fun _ => ?_)
            refine E_aload_n dX11_lay_98 rfl ?_
            refine L_get fX11_44 dX11_lay_99 (by decide) sh_0 rfl ?_
            refine E_iload_n dX11_lay_102 rfl ?_
            refine L_aald (j := i) dX11_lay_103 (by decide) sh_8 rfl ei hi (by decide) (if_pos hi) ?_
            refine E_aload_n dX11_lay_104 rfl ?_
            refine L_get fX11_30 dX11_lay_105 (by decide) sh_0 rfl ?_
            refine E_iload_n dX11_lay_108 rfl ?_
            refine L_aald (j := s) dX11_lay_109 (by decide) sh_5 rfl es hs (by decide) (if_pos hs) ?_
            refine E_V1v vX11_321_5 dX11_lay_110 (Nat.le_of_ble_eq_true rfl) (by have := ((isR_l hi)).lt; omega) ((sh_R (isR_l hi)) _) (s_X5_becomeAs (isR_l hi) (isR_s hs) (by omega) (by omega) (fun S110 a110 b110 e110 f110 => ?_))
            refine E_goto dX11_lay_113 ?_
            refine E_aload_n dX11_lay_123 rfl ?_
            refine L_get fX11_34 dX11_lay_124 (by decide) sh_0 rfl ?_
            refine E_iload_n dX11_lay_127 rfl ?_
            refine L_iald (j := i) dX11_lay_128 (by decide) sh_6 ei hi (by decide) ?_
            refine E_istore dX11_lay_129 (by decide) ?_
            refine E_aload_n dX11_lay_131 rfl ?_
            refine L_get fX11_34 dX11_lay_132 (by decide) sh_0 rfl ?_
            refine E_iload_n dX11_lay_135 rfl ?_
            refine E_iload_n dX11_lay_136 rfl ?_
            refine L_iast (j := i) dX11_lay_137 (by decide) sh_6 ei hi (by decide) ?_
            refine E_iload dX11_lay_138 rfl ?_
            refine E_iret dX11_lay_140 rfl rfl ?_
            rw [layR, ii, Option.elim, if_pos ⟨g2a, g2b⟩, if_neg (by rw [ey]; decide), if_pos ey, is, Option.elim, if_neg gm] at hq
            rw [f110 6 (by omega) (by omega), (hL i hi).1, ey]
            refine hq _ (hL.set hi ?_ (fun j hj => ?_) (fun k h1 h2 => ?_) (fun h => absurd h (by decide)) (fun _ => ?_) (fun h => absurd h (by decide))) (fun k h1 h2 h3 => ?_)
            · rw [wr_at, f110 6 (by omega) (by omega)]
            · rw [wr_ne (by decide), f110 9 (by omega) (by omega)]
            · rw [wr_ne (by omega), f110 k (by omega) (by omega)]
            · obtain ⟨-, e2, -, e4⟩ := sl_eq (L := L) (i := i) (t := 2) (a := nI (X.2.1 s)) (b := 0) (c := X.2.2 s)
              exact ⟨X.2.1 s, (oX s hs).2, by rw [wr_ne (by omega), b110]; exact (hX s hs).2.1, e2, fun k hk => by rw [wr_ne (by omega), e110 k hk, e4]; exact (hX s hs).2.2 k hk⟩
            · rw [wr_ne h1, f110 k (by omega) (by omega)]
        · have is := ix_none (by omega) g4
          refine E_if_ne dX11_lay_41 (fun c => absurd rfl c) (fun _ => ?_)
          refine E_ldc dX11_lay_44 kX11_105 ?_
          refine E_iret dX11_lay_46 rfl rfl ?_
          rw [layR, ii, Option.elim, if_pos ⟨g2a, g2b⟩, if_neg (by rw [ey]; decide), if_pos ey, is] at hq
          exact hq S hL SLF.rf
      · refine E_iload_n dX11_lay_19 rfl ?_
        refine E_ic (v := 1) dX11_lay_20 (by decide) ?_
        refine E_icmp_ne dX11_lay_21 (fun _ => ?_) (fun c => absurd c n1)
        refine E_iload_n dX11_lay_32 rfl ?_
        refine E_ic (v := 2) dX11_lay_33 (by decide) ?_
        refine E_icmp_ne dX11_lay_34 (fun _ => ?_) (fun c => absurd c n2)
        refine E_iload_n dX11_lay_47 rfl ?_
        refine E_ic (v := 2) dX11_lay_48 (by decide) ?_
        refine E_icmp_ne dX11_lay_49 (fun _ => ?_) (fun c => absurd c n2)
        refine E_iload_n dX11_lay_67 rfl ?_
        refine E_ic (v := 1) dX11_lay_68 (by decide) ?_
        refine E_icmp_ne dX11_lay_69 (fun _ => ?_) (fun c => absurd c n1)
        refine E_iload_n dX11_lay_93 rfl ?_
        refine E_ic (v := 2) dX11_lay_94 (by decide) ?_
        refine E_icmp_ne dX11_lay_95 (fun _ => ?_) (fun c => absurd c n2)
        refine E_aload_n dX11_lay_116 rfl ?_
        refine L_get fX11_47 dX11_lay_117 (by decide) sh_0 rfl ?_
        refine E_iload_n dX11_lay_120 rfl ?_
        refine E_iload_n dX11_lay_121 rfl ?_
        refine L_iast (j := i) dX11_lay_122 (by decide) sh_9 ei hi (by decide) ?_
        refine E_aload_n dX11_lay_123 rfl ?_
        refine L_get fX11_34 dX11_lay_124 (by decide) sh_0 rfl ?_
        refine E_iload_n dX11_lay_127 rfl ?_
        refine L_iald (j := i) dX11_lay_128 (by decide) sh_6 ei hi (by decide) ?_
        refine E_istore dX11_lay_129 (by decide) ?_
        refine E_aload_n dX11_lay_131 rfl ?_
        refine L_get fX11_34 dX11_lay_132 (by decide) sh_0 rfl ?_
        refine E_iload_n dX11_lay_135 rfl ?_
        refine E_iload_n dX11_lay_136 rfl ?_
        refine L_iast (j := i) dX11_lay_137 (by decide) sh_6 ei hi (by decide) ?_
        refine E_iload dX11_lay_138 rfl ?_
        refine E_iret dX11_lay_140 rfl rfl ?_
        rw [layR, ii, Option.elim, if_pos ⟨g2a, g2b⟩, if_neg n1, if_neg n2] at hq
        rw [wr_ne (by decide), (hL i hi).1]
        refine hq _ (hL.set hi ?_ (fun j hj => ?_) (fun k h1 h2 => ?_) (fun h => absurd h n1) (fun h => absurd h n2) (fun _ => ?_)) (fun k h1 h2 h3 => ?_)
        · rw [wr_at, wr_ne (by decide)]
        · rw [wr_ne (by decide), wr_at, pk_un hj]
        · rw [wr_ne (by omega), wr_ne (by omega)]
        · rw [wr_ne (by decide), wr_at, pk_us]
        · rw [wr_ne h1, wr_ne h2]
    · refine E_if_ne dX11_lay_13 (fun c => absurd rfl c) (fun _ => ?_)
      refine E_ldc dX11_lay_16 kX11_105 ?_
      refine E_iret dX11_lay_18 rfl rfl ?_
      rw [layR, ii, Option.elim, if_neg g2] at hq
      exact hq S hL SLF.rf
  · have ii := ix_none (by omega) g1
    refine E_if_eq dX11_lay_4 (fun _ => ?_) (fun c => absurd (by decide) c)
    refine E_ldc dX11_lay_16 kX11_105 ?_
    refine E_iret dX11_lay_18 rfl rfl ?_
    rw [layR, ii] at hq
    exact hq S hL SLF.rf
theorem l_X12_lay {Q : Int32 → HP → Prop} {s i : Nat} (hs : s < 4) (hi : i < 5) {c : Nat → Int32} {a4 : Int32} : ∀ (f : Nat) (S : SS) (x5 : Int32) (k : Nat), x5 = nI k → k + f = 24 → (∀ j, j < 24 → S 176 (24 * s + j) = c j) → (∀ j, j < k → S 180 (24 * i + j) = c j) → (∀ S', (∀ j, j < 24 → S' 180 (24 * i + j) = c j) → (∀ j, (j < 24 * i ∨ 24 * i + 24 ≤ j) → S' 180 j = S 180 j) → (∀ k, k ≠ 180 → S' k = S k) → Q a4 (lay Θ S')) → E Θ (d + 2) 0 0 yX12_lay cX12_lay 6 (some .int) 0 0 183 (lay Θ S) 134 [(5, .int x5), (4, .int a4), (3, .int (nI s)), (2, .int 2), (1, .int (nI i)), (0, .ref (tb Θ + 159))] [] (Qi Q) := by
  intro f
  induction f with
  | zero =>
    intro S x5 k hx5 hi0 hc hz hq
    refine E_iload dX12_lay_134 rfl ?_
    refine E_bipush (v := 24) dX12_lay_136 (by decide) ?_
    refine E_icmp_ge dX12_lay_138 (fun _ => ?_) (fun c => absurd (by rw [hx5]; exact nI_le (a := 24) (by omega) (by omega)) c)
    refine E_iload dX12_lay_176 rfl ?_
    refine E_iret dX12_lay_178 rfl rfl ?_
    exact hq S (fun k hk => hz k (by omega)) (fun _ _ => rfl) (fun _ _ => rfl)
  | succ f ih =>
    intro S x5 k hx5 hi0 hc hz hq
    refine E_iload dX12_lay_134 rfl ?_
    refine E_bipush (v := 24) dX12_lay_136 (by decide) ?_
    refine E_icmp_ge dX12_lay_138 (fun c => absurd c (ge_no (a := 24) (by omega) (by omega) hx5 (by omega))) (fun _ => ?_)
    refine E_iload_n dX12_lay_141 rfl ?_
    refine E_ic (v := 2) dX12_lay_142 (by decide) ?_
    refine E_icmp_ne dX12_lay_143 (fun c => absurd rfl c) (fun _ => ?_)
    refine E_aload_n dX12_lay_146 rfl ?_
    refine L_get fX12_72 dX12_lay_147 (by decide) sh_159 rfl ?_
    refine E_bipush (v := 24) dX12_lay_150 (by decide) ?_
    refine E_iload_n dX12_lay_152 rfl ?_
    refine E_imul dX12_lay_153 ?_
    refine E_iload dX12_lay_154 rfl ?_
    refine E_iadd dX12_lay_156 ?_
    refine E_aload_n dX12_lay_157 rfl ?_
    refine L_get fX12_60 dX12_lay_158 (by decide) sh_159 rfl ?_
    refine E_bipush (v := 24) dX12_lay_161 (by decide) ?_
    refine E_iload_n dX12_lay_163 rfl ?_
    refine E_imul dX12_lay_164 ?_
    refine E_iload dX12_lay_165 rfl ?_
    refine E_iadd dX12_lay_167 ?_
    refine L_iald (j := 24 * s + k) dX12_lay_168 (by decide) sh_176 (by rw [hx5]; exact ce_ix) (by omega) (by decide) ?_
    rw [hc k (by omega)]
    refine L_iast (j := 24 * i + k) dX12_lay_169 (by decide) sh_180 (by rw [hx5]; exact ce_ix) (by omega) (by decide) ?_
    refine E_iinc (v := 1) dX12_lay_170 rfl (by decide) (by decide) ?_
    refine E_goto dX12_lay_173 ?_
    refine E.loc (by exact ⟨rfl, rfl, rfl, rfl, rfl, rfl, trivial⟩) (ih _ _ (k + 1) (by rw [hx5, nI_1]) (by omega) (fun k hk => by rw [wr_ne (by decide)]; exact hc k hk) (fun j hj => ?_) (fun S9 a9 b9 c9 => hq S9 a9 (fun j hj => by rw [b9 j hj, wr_at, pk_un (by omega)]) (fun k hk => (c9 k hk).trans (wr_ne hk))))
    rw [wr_at]
    by_cases e : j = k
    · rw [e, pk_us]
    · rw [pk_un (by omega)]
      exact hz j (by omega)
theorem s_X12_lay {Q : Int32 → HP → Prop} (hv : S 160 = v) {m : Nat} (hm : v 1 = nI m) (hmm : mN v = m) (hm9 : m ≤ 9) {X : SH} (hX : RSh S X) (oX : OSh X) {L : SL} (hL : RSl S L) {x y z : Int32} (hq : ∀ S', S' 160 = v → RSl S' (layR L X v x y z).2 → SMF S S' → Q (layR L X v x y z).1 (lay Θ S')) : C Θ (d + 2) 0 0 yX12_lay cX12_lay 6 (some .int) [.ref (tb Θ + 159), .int x, .int y, .int z] 183 (lay Θ S) (Qi Q) := by
  refine C_of rfl rfl (Nat.le_of_ble_eq_true rfl) ?_
  have hm1 : S 160 1 = nI m := by rw [hv]; exact hm
  refine E_iload_n dX12_lay_0 rfl ?_
  refine E_S1i sX12_278 dX12_lay_1 (Nat.le_of_ble_eq_true rfl) (s_X12_isSlot (fun g1 => ?_) (fun g1 => ?_))
  · obtain ⟨i, hi, ei, ii⟩ := ix_some (by omega) g1
    refine E_if_eq dX12_lay_4 (fun c => absurd c (by decide)) (fun _ => ?_)
    refine E_iload_n dX12_lay_7 rfl ?_
    refine E_ic (v := 0) dX12_lay_8 (by decide) ?_
    refine E_ic (v := 3) dX12_lay_9 (by decide) ?_
    refine E_S3i sX12_81 dX12_lay_10 (Nat.le_of_ble_eq_true rfl) (s_X12_in (fun g2a g2b => ?_) (fun g2 => ?_))
    · refine E_if_eq dX12_lay_13 (fun c => absurd c (by decide)) (fun _ => ?_)
      by_cases n1 : y = 1
      · have ey := n1
        refine E_iload_n dX12_lay_16 rfl ?_
        refine E_ic (v := 1) dX12_lay_17 (by decide) ?_
        refine E_icmp_ne dX12_lay_18 (fun c => absurd ey c) (fun _ => ?_)
        refine E_aload_n dX12_lay_21 rfl ?_
        refine E_iload_n dX12_lay_22 rfl ?_
        refine E_V1i vX12_112_12 dX12_lay_23 (Nat.le_of_ble_eq_true rfl) (by decide) (sh_159 _) (s_X12_isOne hm1 hm9 (fun g3 => ?_) (fun g3 => ?_))
        · obtain ⟨p, hp, ep, ip⟩ := ix_some (by omega) g3
          refine E_if_eq dX12_lay_26 (fun c => absurd c (by decide)) (fun _ => ?_)
          refine E_iload_n dX12_lay_29 rfl ?_
          refine E_ic (v := 2) dX12_lay_30 (by decide) ?_
          refine E_icmp_ne dX12_lay_31 (fun _ => ?_) (fun c => absurd c (by rw [ey]; decide))
          refine E_iload_n dX12_lay_44 rfl ?_
          refine E_ic (v := 2) dX12_lay_45 (by decide) ?_
          refine E_icmp_ne dX12_lay_46 (fun _ => ?_) (fun c => absurd c (by rw [ey]; decide))
          refine E_aload_n dX12_lay_61 rfl ?_
          refine L_get fX12_63 dX12_lay_62 (by decide) sh_159 rfl ?_
          refine E_iload_n dX12_lay_65 rfl ?_
          refine L_iald (j := i) dX12_lay_66 (by decide) sh_177 ei hi (by decide) ?_
          rw [(hL i hi).1]
          refine E_istore dX12_lay_67 (by decide) ?_
          refine E_aload_n dX12_lay_69 rfl ?_
          refine L_get fX12_63 dX12_lay_70 (by decide) sh_159 rfl ?_
          refine E_iload_n dX12_lay_73 rfl ?_
          refine E_iload_n dX12_lay_74 rfl ?_
          refine L_iast (j := i) dX12_lay_75 (by decide) sh_177 ei hi (by decide) ?_
          refine E_aload_n dX12_lay_76 rfl ?_
          refine L_get fX12_66 dX12_lay_77 (by decide) sh_159 rfl ?_
          refine E_iload_n dX12_lay_80 rfl ?_
          refine E_iload_n dX12_lay_81 rfl ?_
          refine E_ic (v := 1) dX12_lay_82 (by decide) ?_
          refine E_icmp_ne dX12_lay_83 (fun c => absurd ey c) (fun _ => ?_)
          refine E_aload_n dX12_lay_86 rfl ?_
          refine E_iload_n dX12_lay_87 rfl ?_
          refine E_ic (v := 0) dX12_lay_88 (by decide) ?_
          refine E_V2i vX12_85_12 dX12_lay_89 (Nat.le_of_ble_eq_true rfl) (by decide) (sh_159 _) (s_X12_of (v := v) (by rw [wr_ne (by decide)]; exact hv) p 0 (15 + 9 * p) ep rfl (by omega) rfl ?_)
          refine E_goto dX12_lay_92 ?_
          refine L_iast (j := i) dX12_lay_110 (by decide) sh_178 ei hi (by decide) ?_
          refine E_aload_n dX12_lay_111 rfl ?_
          refine L_get fX12_69 dX12_lay_112 (by decide) sh_159 rfl ?_
          refine E_iload_n dX12_lay_115 rfl ?_
          refine E_iload_n dX12_lay_116 rfl ?_
          refine E_ic (v := 1) dX12_lay_117 (by decide) ?_
          refine E_icmp_ne dX12_lay_118 (fun c => absurd ey c) (fun _ => ?_)
          refine E_aload_n dX12_lay_121 rfl ?_
          refine E_iload_n dX12_lay_122 rfl ?_
          refine E_V1i vX12_116_12 dX12_lay_123 (Nat.le_of_ble_eq_true rfl) (by decide) (sh_159 _) (s_X12_worthOf (v := v) (by rw [wr_ne (by decide)]; rw [wr_ne (by decide)]; exact hv) p ep (by omega) ?_)
          refine E_goto dX12_lay_126 ?_
          refine L_iast (j := i) dX12_lay_130 (by decide) sh_179 ei hi (by decide) ?_
          refine E_ic (v := 0) dX12_lay_131 (by decide) ?_
          refine E_istore dX12_lay_132 (by decide) ?_
          refine E_iload dX12_lay_134 rfl ?_
          refine E_bipush (v := 24) dX12_lay_136 (by decide) ?_
          refine E_icmp_ge dX12_lay_138 (fun c => absurd c (by decide)) (fun _ => ?_)
          refine E_iload_n dX12_lay_141 rfl ?_
          refine E_ic (v := 2) dX12_lay_142 (by decide) ?_
          refine E_icmp_ne dX12_lay_143 (fun _ => ?_) (fun c => absurd c (by rw [ey]; decide))
          refine E_iload dX12_lay_176 rfl ?_
          refine E_iret dX12_lay_178 rfl rfl ?_
          rw [layR, ii, Option.elim, if_pos ⟨g2a, g2b⟩, if_pos ey, hmm, ip, Option.elim] at hq
          rw [kdF, tmF]
          refine hq _ (by rw [wr_ne (by decide), wr_ne (by decide), wr_ne (by decide)]; exact hv) (hL.set hi ?_ ?_ ?_ (fun k hk => ?_) (fun j hj => ?_)) (fun k h1 h2 h3 h4 => ?_)
          · rw [wr_ne (by decide), wr_ne (by decide), wr_at, ey]
          · rw [wr_ne (by decide), wr_at, wr_ne (by decide)]
          · rw [wr_at, wr_ne (by decide), wr_ne (by decide)]
          · rw [wr_ne (by decide), wr_ne (by decide), wr_ne (by decide)]
            exact (hL i hi).2.2.2 k hk
          · rw [wr_ne (by decide), wr_ne (by decide), wr_ne (by decide)]
          · rw [wr_ne h3, wr_ne h2, wr_ne h1]
        · have ip := ix_none (by omega) g3
          refine E_if_eq dX12_lay_26 (fun _ => ?_) (fun c => absurd (by decide) c)
          refine E_ldc dX12_lay_41 kX12_107 ?_
          refine E_iret dX12_lay_43 rfl rfl ?_
          rw [layR, ii, Option.elim, if_pos ⟨g2a, g2b⟩, if_pos ey, hmm, ip] at hq
          exact hq S hv hL SMF.rf
      by_cases n2 : y = 2
      · have ey := n2
        refine E_iload_n dX12_lay_16 rfl ?_
        refine E_ic (v := 1) dX12_lay_17 (by decide) ?_
        refine E_icmp_ne dX12_lay_18 (fun _ => ?_) (fun c => absurd c (by rw [ey]; decide))
        refine E_iload_n dX12_lay_29 rfl ?_
        refine E_ic (v := 2) dX12_lay_30 (by decide) ?_
        refine E_icmp_ne dX12_lay_31 (fun c => absurd ey c) (fun _ => ?_)
        refine E_iload_n dX12_lay_34 rfl ?_
        refine E_S1i sX12_202 dX12_lay_35 (Nat.le_of_ble_eq_true rfl) (s_X12_isSheet (fun g4 => ?_) (fun g4 => ?_))
        · obtain ⟨s, hs, es, is⟩ := ix_some (by omega) g4
          refine E_if_ne dX12_lay_38 (fun _ => ?_) (fun c => absurd c (by decide))
          refine E_iload_n dX12_lay_44 rfl ?_
          refine E_ic (v := 2) dX12_lay_45 (by decide) ?_
          refine E_icmp_ne dX12_lay_46 (fun c => absurd ey c) (fun _ => ?_)
          refine E_aload_n dX12_lay_49 rfl ?_
          refine L_get fX12_54 dX12_lay_50 (by decide) sh_159 rfl ?_
          refine E_iload_n dX12_lay_53 rfl ?_
          refine L_iald (j := s) dX12_lay_54 (by decide) sh_174 es hs (by decide) ?_
          rw [(hX s hs).1]
          refine E_if_ge dX12_lay_55 (fun c55 => ?_) (fun c55 => ?_)
          · refine E_aload_n dX12_lay_61 rfl ?_
            refine L_get fX12_63 dX12_lay_62 (by decide) sh_159 rfl ?_
            refine E_iload_n dX12_lay_65 rfl ?_
            refine L_iald (j := i) dX12_lay_66 (by decide) sh_177 ei hi (by decide) ?_
            rw [(hL i hi).1]
            refine E_istore dX12_lay_67 (by decide) ?_
            refine E_aload_n dX12_lay_69 rfl ?_
            refine L_get fX12_63 dX12_lay_70 (by decide) sh_159 rfl ?_
            refine E_iload_n dX12_lay_73 rfl ?_
            refine E_iload_n dX12_lay_74 rfl ?_
            refine L_iast (j := i) dX12_lay_75 (by decide) sh_177 ei hi (by decide) ?_
            refine E_aload_n dX12_lay_76 rfl ?_
            refine L_get fX12_66 dX12_lay_77 (by decide) sh_159 rfl ?_
            refine E_iload_n dX12_lay_80 rfl ?_
            refine E_iload_n dX12_lay_81 rfl ?_
            refine E_ic (v := 1) dX12_lay_82 (by decide) ?_
            refine E_icmp_ne dX12_lay_83 (fun _ => ?_) (fun c => absurd c (by rw [ey]; decide))
            refine E_iload_n dX12_lay_95 rfl ?_
            refine E_ic (v := 2) dX12_lay_96 (by decide) ?_
            refine E_icmp_ne dX12_lay_97 (fun c => absurd ey c) (fun _ => ?_)
            refine E_aload_n dX12_lay_100 rfl ?_
            refine L_get fX12_57 dX12_lay_101 (by decide) sh_159 rfl ?_
            refine E_iload_n dX12_lay_104 rfl ?_
            refine L_iald (j := s) dX12_lay_105 (by decide) sh_175 es hs (by decide) ?_
            rw [wr_ne (by decide), (hX s hs).2.1]
            refine E_goto dX12_lay_106 ?_
            refine L_iast (j := i) dX12_lay_110 (by decide) sh_178 ei hi (by decide) ?_
            refine E_aload_n dX12_lay_111 rfl ?_
            refine L_get fX12_69 dX12_lay_112 (by decide) sh_159 rfl ?_
            refine E_iload_n dX12_lay_115 rfl ?_
            refine E_iload_n dX12_lay_116 rfl ?_
            refine E_ic (v := 1) dX12_lay_117 (by decide) ?_
            refine E_icmp_ne dX12_lay_118 (fun _ => ?_) (fun c => absurd c (by rw [ey]; decide))
            refine E_ic (v := 0) dX12_lay_129 (by decide) ?_
            refine L_iast (j := i) dX12_lay_130 (by decide) sh_179 ei hi (by decide) ?_
            refine E_ic (v := 0) dX12_lay_131 (by decide) ?_
            refine E_istore dX12_lay_132 (by decide) ?_
            rw [layR, ii, Option.elim, if_pos ⟨g2a, g2b⟩, if_neg (by rw [ey]; decide), if_pos ey, is, Option.elim, if_neg (i_lt c55)] at hq
            rw [ei, es, ey]
            refine E.loc (by exact ⟨rfl, rfl, rfl, rfl, rfl, rfl, trivial⟩) (l_X12_lay hs hi (c := X.2.2 s) 24 _ 0 0 rfl (by omega) (fun j hj => by rw [wr_ne (by decide), wr_ne (by decide), wr_ne (by decide)]; exact (hX s hs).2.2 j hj) (fun j hj => absurd hj (by omega)) (fun S9 a9 b9 c9 => ?_))
            refine hq _ (by rw [c9 160 (by decide), wr_ne (by decide), wr_ne (by decide), wr_ne (by decide)]; exact hv) (hL.set hi ?_ ?_ ?_ a9 (fun j hj => ?_)) (fun k h1 h2 h3 h4 => ?_)
            · rw [c9 177 (by decide), wr_ne (by decide), wr_ne (by decide), wr_at]
            · rw [c9 178 (by decide), wr_ne (by decide), wr_at, wr_ne (by decide)]
            · rw [c9 179 (by decide), wr_at, wr_ne (by decide), wr_ne (by decide)]
            · rw [b9 j hj, wr_ne (by decide), wr_ne (by decide), wr_ne (by decide)]
            · rw [c9 k h4, wr_ne h3, wr_ne h2, wr_ne h1]
          · refine E_ldc dX12_lay_58 kX12_205 ?_
            refine E_iret dX12_lay_60 rfl rfl ?_
            rw [layR, ii, Option.elim, if_pos ⟨g2a, g2b⟩, if_neg (by rw [ey]; decide), if_pos ey, is, Option.elim, if_pos (i_nle c55)] at hq
            exact hq S hv hL SMF.rf
        · have is := ix_none (by omega) g4
          refine E_if_ne dX12_lay_38 (fun c => absurd rfl c) (fun _ => ?_)
          refine E_ldc dX12_lay_41 kX12_107 ?_
          refine E_iret dX12_lay_43 rfl rfl ?_
          rw [layR, ii, Option.elim, if_pos ⟨g2a, g2b⟩, if_neg (by rw [ey]; decide), if_pos ey, is] at hq
          exact hq S hv hL SMF.rf
      · refine E_iload_n dX12_lay_16 rfl ?_
        refine E_ic (v := 1) dX12_lay_17 (by decide) ?_
        refine E_icmp_ne dX12_lay_18 (fun _ => ?_) (fun c => absurd c n1)
        refine E_iload_n dX12_lay_29 rfl ?_
        refine E_ic (v := 2) dX12_lay_30 (by decide) ?_
        refine E_icmp_ne dX12_lay_31 (fun _ => ?_) (fun c => absurd c n2)
        refine E_iload_n dX12_lay_44 rfl ?_
        refine E_ic (v := 2) dX12_lay_45 (by decide) ?_
        refine E_icmp_ne dX12_lay_46 (fun _ => ?_) (fun c => absurd c n2)
        refine E_aload_n dX12_lay_61 rfl ?_
        refine L_get fX12_63 dX12_lay_62 (by decide) sh_159 rfl ?_
        refine E_iload_n dX12_lay_65 rfl ?_
        refine L_iald (j := i) dX12_lay_66 (by decide) sh_177 ei hi (by decide) ?_
        rw [(hL i hi).1]
        refine E_istore dX12_lay_67 (by decide) ?_
        refine E_aload_n dX12_lay_69 rfl ?_
        refine L_get fX12_63 dX12_lay_70 (by decide) sh_159 rfl ?_
        refine E_iload_n dX12_lay_73 rfl ?_
        refine E_iload_n dX12_lay_74 rfl ?_
        refine L_iast (j := i) dX12_lay_75 (by decide) sh_177 ei hi (by decide) ?_
        refine E_aload_n dX12_lay_76 rfl ?_
        refine L_get fX12_66 dX12_lay_77 (by decide) sh_159 rfl ?_
        refine E_iload_n dX12_lay_80 rfl ?_
        refine E_iload_n dX12_lay_81 rfl ?_
        refine E_ic (v := 1) dX12_lay_82 (by decide) ?_
        refine E_icmp_ne dX12_lay_83 (fun _ => ?_) (fun c => absurd c n1)
        refine E_iload_n dX12_lay_95 rfl ?_
        refine E_ic (v := 2) dX12_lay_96 (by decide) ?_
        refine E_icmp_ne dX12_lay_97 (fun _ => ?_) (fun c => absurd c n2)
        refine E_iload_n dX12_lay_109 rfl ?_
        refine L_iast (j := i) dX12_lay_110 (by decide) sh_178 ei hi (by decide) ?_
        refine E_aload_n dX12_lay_111 rfl ?_
        refine L_get fX12_69 dX12_lay_112 (by decide) sh_159 rfl ?_
        refine E_iload_n dX12_lay_115 rfl ?_
        refine E_iload_n dX12_lay_116 rfl ?_
        refine E_ic (v := 1) dX12_lay_117 (by decide) ?_
        refine E_icmp_ne dX12_lay_118 (fun _ => ?_) (fun c => absurd c n1)
        refine E_ic (v := 0) dX12_lay_129 (by decide) ?_
        refine L_iast (j := i) dX12_lay_130 (by decide) sh_179 ei hi (by decide) ?_
        refine E_ic (v := 0) dX12_lay_131 (by decide) ?_
        refine E_istore dX12_lay_132 (by decide) ?_
        refine E_iload dX12_lay_134 rfl ?_
        refine E_bipush (v := 24) dX12_lay_136 (by decide) ?_
        refine E_icmp_ge dX12_lay_138 (fun c => absurd c (by decide)) (fun _ => ?_)
        refine E_iload_n dX12_lay_141 rfl ?_
        refine E_ic (v := 2) dX12_lay_142 (by decide) ?_
        refine E_icmp_ne dX12_lay_143 (fun _ => ?_) (fun c => absurd c n2)
        refine E_iload dX12_lay_176 rfl ?_
        refine E_iret dX12_lay_178 rfl rfl ?_
        rw [layR, ii, Option.elim, if_pos ⟨g2a, g2b⟩, if_neg n1, if_neg n2] at hq
        refine hq _ (by rw [wr_ne (by decide), wr_ne (by decide), wr_ne (by decide)]; exact hv) (hL.set hi ?_ ?_ ?_ (fun k hk => ?_) (fun j hj => ?_)) (fun k h1 h2 h3 h4 => ?_)
        · rw [wr_ne (by decide), wr_ne (by decide), wr_at]
        · rw [wr_ne (by decide), wr_at, wr_ne (by decide)]
        · rw [wr_at, wr_ne (by decide), wr_ne (by decide)]
        · rw [wr_ne (by decide), wr_ne (by decide), wr_ne (by decide)]
          exact (hL i hi).2.2.2 k hk
        · rw [wr_ne (by decide), wr_ne (by decide), wr_ne (by decide)]
        · rw [wr_ne h3, wr_ne h2, wr_ne h1]
    · refine E_if_eq dX12_lay_13 (fun _ => ?_) (fun c => absurd (by decide) c)
      refine E_ldc dX12_lay_41 kX12_107 ?_
      refine E_iret dX12_lay_43 rfl rfl ?_
      rw [layR, ii, Option.elim, if_neg g2] at hq
      exact hq S hv hL SMF.rf
  · have ii := ix_none (by omega) g1
    refine E_if_eq dX12_lay_4 (fun _ => ?_) (fun c => absurd (by decide) c)
    refine E_ldc dX12_lay_41 kX12_107 ?_
    refine E_iret dX12_lay_43 rfl rfl ?_
    rw [layR, ii] at hq
    exact hq S hv hL SMF.rf
theorem s_X12_ask {Q : Int32 → HP → Prop} {L : SL} (hL : RSl S L) {x y : Int32} (hq : Q (askR L x y) (lay Θ S)) : C Θ (d + 2) 0 0 yX12_ask cX12_ask 3 (some .int) [.ref (tb Θ + 159), .int x, .int y] 183 (lay Θ S) (Qi Q) := by
  refine C_of rfl rfl (Nat.le_of_ble_eq_true rfl) ?_
  refine E_iload_n dX12_ask_0 rfl ?_
  refine E_S1i sX12_278 dX12_ask_1 (Nat.le_of_ble_eq_true rfl) (s_X12_isSlot (fun g1 => ?_) (fun g1 => ?_))
  · obtain ⟨i, hi, ei, ii⟩ := ix_some (by omega) g1
    refine E_if_eq dX12_ask_4 (fun c => absurd c (by decide)) (fun _ => ?_)
    refine E_iload_n dX12_ask_7 rfl ?_
    refine E_ic (v := 0) dX12_ask_8 (by decide) ?_
    refine E_ic (v := 5) dX12_ask_9 (by decide) ?_
    refine E_S3i sX12_81 dX12_ask_10 (Nat.le_of_ble_eq_true rfl) (s_X12_in (fun g2a g2b => ?_) (fun g2 => ?_))
    · obtain ⟨k, hk6, ek, ik⟩ := ix_some (by omega) (isIx_le (n := 5) (by decide) g2a g2b)
      refine E_if_ne dX12_ask_13 (fun _ => ?_) (fun c => absurd c (by decide))
      refine E_aload_n dX12_ask_19 rfl ?_
      refine L_get fX12_63 dX12_ask_20 (by decide) sh_159 rfl ?_
      refine E_iload_n dX12_ask_23 rfl ?_
      refine L_iald (j := i) dX12_ask_24 (by decide) sh_177 ei hi (by decide) ?_
      rw [(hL i hi).1]
      refine E_if_ne dX12_ask_25 (fun c25 => ?_) (fun c25 => ?_)
      · refine E_aload_n dX12_ask_31 rfl ?_
        refine L_get fX12_63 dX12_ask_32 (by decide) sh_159 rfl ?_
        refine E_iload_n dX12_ask_35 rfl ?_
        refine L_iald (j := i) dX12_ask_36 (by decide) sh_177 ei hi (by decide) ?_
        rw [(hL i hi).1]
        refine E_ic (v := 1) dX12_ask_37 (by decide) ?_
        refine E_icmp_ne dX12_ask_38 (fun c38 => ?_) (fun c38 => ?_)
        · refine E_ldc dX12_ask_63 kX12_129 ?_
          refine E_iret dX12_ask_65 rfl rfl ?_
          rw [askR, ii, Option.elim, ik, Option.elim, if_neg c25, if_neg (fun h => c38 h.1)] at hq
          exact hq
        · refine E_aload_n dX12_ask_41 rfl ?_
          refine L_get fX12_66 dX12_ask_42 (by decide) sh_159 rfl ?_
          refine E_iload_n dX12_ask_45 rfl ?_
          refine L_iald (j := i) dX12_ask_46 (by decide) sh_178 ei hi (by decide) ?_
          rw [(hL i hi).2.1]
          refine E_iload_n dX12_ask_47 rfl ?_
          refine E_S2i sX12_125 dX12_ask_48 (Nat.le_of_ble_eq_true rfl) (s_X12_isUnder (fun gu => ?_) (fun gu => ?_))
          · refine E_if_eq dX12_ask_51 (fun c => absurd c (by decide)) (fun _ => ?_)
            refine E_aload_n dX12_ask_54 rfl ?_
            refine L_get fX12_69 dX12_ask_55 (by decide) sh_159 rfl ?_
            refine E_iload_n dX12_ask_58 rfl ?_
            refine L_iald (j := i) dX12_ask_59 (by decide) sh_179 ei hi (by decide) ?_
            rw [(hL i hi).2.2.1]
            refine E_goto dX12_ask_60 ?_
            refine E_iret dX12_ask_65 rfl rfl ?_
            rw [askR, ii, Option.elim, ik, Option.elim, if_neg c25, if_pos ⟨c38, gu⟩] at hq
            exact hq
          · refine E_if_eq dX12_ask_51 (fun _ => ?_) (fun c => absurd (by decide) c)
            refine E_ldc dX12_ask_63 kX12_129 ?_
            refine E_iret dX12_ask_65 rfl rfl ?_
            rw [askR, ii, Option.elim, ik, Option.elim, if_neg c25, if_neg (fun h => gu h.2)] at hq
            exact hq
      · refine E_ldc dX12_ask_28 kX12_205 ?_
        refine E_iret dX12_ask_30 rfl rfl ?_
        rw [askR, ii, Option.elim, ik, Option.elim, if_pos c25] at hq
        exact hq
    · have ik := ix_none (n := 6) (by omega) (fun hh => g2 (isIx_back (n := 5) (by decide) hh))
      refine E_if_ne dX12_ask_13 (fun c => absurd rfl c) (fun _ => ?_)
      refine E_ldc dX12_ask_16 kX12_107 ?_
      refine E_iret dX12_ask_18 rfl rfl ?_
      rw [askR, ii, Option.elim, ik] at hq
      exact hq
  · have ii := ix_none (by omega) g1
    refine E_if_eq dX12_ask_4 (fun _ => ?_) (fun c => absurd (by decide) c)
    refine E_ldc dX12_ask_16 kX12_107 ?_
    refine E_iret dX12_ask_18 rfl rfl ?_
    rw [askR, ii] at hq
    exact hq
theorem s_X11_ask {Q : Int32 → HP → Prop} {L : SL} (hL : CSl S L) {x y : Int32} (hq : Q (askR L x y) (lay Θ S)) : C Θ (d + 3) 0 0 yX11_ask cX11_ask 4 (some .int) [.ref (tb Θ + 0), .int x, .int y] 183 (lay Θ S) (Qi Q) := by
  refine C_of rfl rfl (Nat.le_of_ble_eq_true rfl) ?_
  refine E_iload_n dX11_ask_0 rfl ?_
  refine E_S1i sX11_315 dX11_ask_1 (Nat.le_of_ble_eq_true rfl) (s_X11_isSlot (fun g1 => ?_) (fun g1 => ?_))
  · obtain ⟨i, hi, ei, ii⟩ := ix_some (by omega) g1
    refine E_if_eq dX11_ask_4 (fun c => absurd c (by decide)) (fun _ => ?_)
    refine E_iload_n dX11_ask_7 rfl ?_
    refine E_S1i sX11_98 dX11_ask_8 (Nat.le_of_ble_eq_true rfl) (s_X11_isKind (fun g2 => ?_) (fun g2 => ?_))
    · obtain ⟨k, hk, ek, ik⟩ := ix_some (by omega) g2
      refine E_if_ne dX11_ask_11 (fun _ => ?_) (fun c => absurd c (by decide))
      refine E_aload_n dX11_ask_17 rfl ?_
      refine L_get fX11_34 dX11_ask_18 (by decide) sh_0 rfl ?_
      refine E_iload_n dX11_ask_21 rfl ?_
      refine L_iald (j := i) dX11_ask_22 (by decide) sh_6 ei hi (by decide) ?_
      rw [(hL i hi).1]
      refine E_if_ne dX11_ask_23 (fun c23 => ?_) (fun c23 => ?_)
      · refine E_aload_n dX11_ask_29 rfl ?_
        refine L_get fX11_40 dX11_ask_30 (by decide) sh_0 rfl ?_
        refine E_iload_n dX11_ask_33 rfl ?_
        refine L_aald (j := i) dX11_ask_34 (by decide) sh_7 rfl ei hi (by decide) (if_pos hi) ?_
        refine E_astore_n dX11_ask_35 (by decide) ?_
        refine E_aload_n dX11_ask_36 rfl ?_
        refine L_get fX11_34 dX11_ask_37 (by decide) sh_0 rfl ?_
        refine E_iload_n dX11_ask_40 rfl ?_
        refine L_iald (j := i) dX11_ask_41 (by decide) sh_6 ei hi (by decide) ?_
        rw [(hL i hi).1]
        refine E_ic (v := 1) dX11_ask_42 (by decide) ?_
        refine E_icmp_ne dX11_ask_43 (fun c43 => ?_) (fun c43 => ?_)
        · refine E_ldc dX11_ask_57 kX11_152 ?_
          refine E_iret dX11_ask_59 rfl rfl ?_
          rw [askR, ii, Option.elim, ik, Option.elim, if_neg c23, if_neg (fun h => c43 h.1)] at hq
          exact hq
        · obtain ⟨c, t, hc, ht, e0, e2, eA, eB⟩ := (hL i hi).2.1 c43
          refine E_aload_n dX11_ask_46 rfl ?_
          refine L_get fX11_121 dX11_ask_47 (by have := ((isP_l hi)).lt; omega) (sh_P (isP_l hi)) rfl ?_
          rw [e0, kref, nI_clamp (by omega)]
          refine E_iload_n dX11_ask_50 rfl ?_
          refine NV_X11_149 hc rfl dX11_ask_51 (Nat.le_of_ble_eq_true rfl) (fun gu => ?_) (fun gu => ?_)
          · refine E_if_ne dX11_ask_54 (fun _ => ?_) (fun c => absurd c (by decide))
            refine E_aload_n dX11_ask_60 rfl ?_
            refine L_get fX11_121 dX11_ask_61 (by have := ((isP_l hi)).lt; omega) (sh_P (isP_l hi)) rfl ?_
            rw [e0, kref, nI_clamp (by omega)]
            refine E_aload_n dX11_ask_64 rfl ?_
            refine L_get fX11_132 dX11_ask_65 (by have := ((isP_l hi)).lt; omega) (sh_P (isP_l hi)) rfl ?_
            rw [e2]
            refine NV_X11_135 ht hc rfl dX11_ask_68 (Nat.le_of_ble_eq_true rfl) ?_
            refine E_iret dX11_ask_71 rfl rfl ?_
            rw [askR, ii, Option.elim, ik, Option.elim, if_neg c23, if_pos ⟨c43, show unF _ _ by rw [eA]; exact gu⟩, eB] at hq
            exact hq
          · refine E_if_ne dX11_ask_54 (fun c => absurd rfl c) (fun _ => ?_)
            refine E_ldc dX11_ask_57 kX11_152 ?_
            refine E_iret dX11_ask_59 rfl rfl ?_
            rw [askR, ii, Option.elim, ik, Option.elim, if_neg c23, if_neg (fun h => gu (by rw [← eA]; exact h.2))] at hq
            exact hq
      · refine E_ldc dX11_ask_26 kX11_244 ?_
        refine E_iret dX11_ask_28 rfl rfl ?_
        rw [askR, ii, Option.elim, ik, Option.elim, if_pos c23] at hq
        exact hq
    · have ik := ix_none (by omega) g2
      refine E_if_ne dX11_ask_11 (fun c => absurd rfl c) (fun _ => ?_)
      refine E_ldc dX11_ask_14 kX11_105 ?_
      refine E_iret dX11_ask_16 rfl rfl ?_
      rw [askR, ii, Option.elim, ik] at hq
      exact hq
  · have ii := ix_none (by omega) g1
    refine E_if_eq dX11_ask_4 (fun _ => ?_) (fun c => absurd (by decide) c)
    refine E_ldc dX11_ask_14 kX11_105 ?_
    refine E_iret dX11_ask_16 rfl rfl ?_
    rw [askR, ii] at hq
    exact hq
theorem s_X12_item {Q : Int32 → HP → Prop} {L : SL} (hL : RSl S L) (oL : OSl L) {x y : Int32} (hq : Q (itemR L x y) (lay Θ S)) : C Θ (d + 2) 0 0 yX12_item cX12_item 4 (some .int) [.ref (tb Θ + 159), .int x, .int y] 183 (lay Θ S) (Qi Q) := by
  refine C_of rfl rfl (Nat.le_of_ble_eq_true rfl) ?_
  refine E_iload_n dX12_item_0 rfl ?_
  refine E_S1i sX12_278 dX12_item_1 (Nat.le_of_ble_eq_true rfl) (s_X12_isSlot (fun g1 => ?_) (fun g1 => ?_))
  · obtain ⟨i, hi, ei, ii⟩ := ix_some (by omega) g1
    refine E_if_ne dX12_item_4 (fun _ => ?_) (fun c => absurd c (by decide))
    refine E_aload_n dX12_item_10 rfl ?_
    refine L_get fX12_63 dX12_item_11 (by decide) sh_159 rfl ?_
    refine E_iload_n dX12_item_14 rfl ?_
    refine L_iald (j := i) dX12_item_15 (by decide) sh_177 ei hi (by decide) ?_
    rw [(hL i hi).1]
    refine E_if_ne dX12_item_16 (fun c16 => ?_) (fun c16 => ?_)
    · refine E_aload_n dX12_item_22 rfl ?_
      refine L_get fX12_63 dX12_item_23 (by decide) sh_159 rfl ?_
      refine E_iload_n dX12_item_26 rfl ?_
      refine L_iald (j := i) dX12_item_27 (by decide) sh_177 ei hi (by decide) ?_
      rw [(hL i hi).1]
      refine E_ic (v := 2) dX12_item_28 (by decide) ?_
      refine E_icmp_eq dX12_item_29 (fun c29 => ?_) (fun c29 => ?_)
      · obtain ⟨n, hn, en⟩ := (oL i hi).2 c29
        refine E_iload_n dX12_item_35 rfl ?_
        refine E_ic (v := 0) dX12_item_36 (by decide) ?_
        refine E_aload_n dX12_item_37 rfl ?_
        refine L_get fX12_66 dX12_item_38 (by decide) sh_159 rfl ?_
        refine E_iload_n dX12_item_41 rfl ?_
        refine L_iald (j := i) dX12_item_42 (by decide) sh_178 ei hi (by decide) ?_
        rw [(hL i hi).2.1, en]
        refine E_ic (v := 1) dX12_item_43 (by decide) ?_
        refine E_isub dX12_item_44 ?_
        refine E_S3i sX12_81 dX12_item_45 (Nat.le_of_ble_eq_true rfl) (s_X12_in (fun ga gb => ?_) (fun gp => ?_))
        · obtain ⟨k, hk, ek, ik⟩ := ix_some (by omega) (m1_leN (by omega) ga gb)
          refine E_if_ne dX12_item_48 (fun _ => ?_) (fun c => absurd c (by decide))
          refine E_aload_n dX12_item_55 rfl ?_
          refine L_get fX12_72 dX12_item_56 (by decide) sh_159 rfl ?_
          refine E_bipush (v := 24) dX12_item_59 (by decide) ?_
          refine E_iload_n dX12_item_61 rfl ?_
          refine E_imul dX12_item_62 ?_
          refine E_iload_n dX12_item_63 rfl ?_
          refine E_iadd dX12_item_64 ?_
          refine L_iald (j := 24 * i + k) dX12_item_65 (by decide) sh_180 (by rw [ei, ek]; exact ce_ix) (by omega) (by decide) ?_
          rw [(hL i hi).2.2.2 k (by omega)]
          refine E_istore_n dX12_item_66 (by decide) ?_
          refine E_iload_n dX12_item_67 rfl ?_
          refine E_ldc dX12_item_68 kX12_136 ?_
          refine E_icmp_ne dX12_item_70 (fun c70 => ?_) (fun c70 => ?_)
          · refine E_iload_n dX12_item_78 rfl ?_
            refine E_iret dX12_item_79 rfl rfl ?_
            rw [itemR, ii, Option.elim, if_neg c16, if_pos c29, en, nI_clamp (by omega), ik, Option.elim, if_neg c70] at hq
            exact hq
          · refine E_ldc dX12_item_73 kX12_129 ?_
            refine E_goto dX12_item_75 ?_
            refine E_iret dX12_item_79 rfl rfl ?_
            rw [itemR, ii, Option.elim, if_neg c16, if_pos c29, en, nI_clamp (by omega), ik, Option.elim, if_pos c70] at hq
            exact hq
        · have ik := ix_none (by omega) (fun hh => gp (m1_backN (by omega) hh))
          refine E_if_ne dX12_item_48 (fun c => absurd rfl c) (fun _ => ?_)
          refine E_ldcw dX12_item_51 kX12_275 ?_
          refine E_iret dX12_item_54 rfl rfl ?_
          rw [itemR, ii, Option.elim, if_neg c16, if_pos c29, en, nI_clamp (by omega), ik] at hq
          exact hq
      · refine E_ldc dX12_item_32 kX12_129 ?_
        refine E_iret dX12_item_34 rfl rfl ?_
        rw [itemR, ii, Option.elim, if_neg c16, if_neg c29] at hq
        exact hq
    · refine E_ldc dX12_item_19 kX12_205 ?_
      refine E_iret dX12_item_21 rfl rfl ?_
      rw [itemR, ii, Option.elim, if_pos c16] at hq
      exact hq
  · have ii := ix_none (by omega) g1
    refine E_if_ne dX12_item_4 (fun c => absurd rfl c) (fun _ => ?_)
    refine E_ldc dX12_item_7 kX12_107 ?_
    refine E_iret dX12_item_9 rfl rfl ?_
    rw [itemR, ii] at hq
    exact hq
theorem s_X11_item {Q : Int32 → HP → Prop} {L : SL} (hL : CSl S L) {x y : Int32} (hq : Q (itemR L x y) (lay Θ S)) : C Θ (d + 2) 0 0 yX11_item cX11_item 4 (some .int) [.ref (tb Θ + 0), .int x, .int y] 183 (lay Θ S) (Qi Q) := by
  refine C_of rfl rfl (Nat.le_of_ble_eq_true rfl) ?_
  refine E_iload_n dX11_item_0 rfl ?_
  refine E_S1i sX11_315 dX11_item_1 (Nat.le_of_ble_eq_true rfl) (s_X11_isSlot (fun g1 => ?_) (fun g1 => ?_))
  · obtain ⟨i, hi, ei, ii⟩ := ix_some (by omega) g1
    refine E_if_ne dX11_item_4 (fun _ => ?_) (fun c => absurd c (by decide))
    refine E_aload_n dX11_item_10 rfl ?_
    refine L_get fX11_34 dX11_item_11 (by decide) sh_0 rfl ?_
    refine E_iload_n dX11_item_14 rfl ?_
    refine L_iald (j := i) dX11_item_15 (by decide) sh_6 ei hi (by decide) ?_
    rw [(hL i hi).1]
    refine E_if_ne dX11_item_16 (fun c16 => ?_) (fun c16 => ?_)
    · refine E_aload_n dX11_item_22 rfl ?_
      refine L_get fX11_34 dX11_item_23 (by decide) sh_0 rfl ?_
      refine E_iload_n dX11_item_26 rfl ?_
      refine L_iald (j := i) dX11_item_27 (by decide) sh_6 ei hi (by decide) ?_
      rw [(hL i hi).1]
      refine E_ic (v := 2) dX11_item_28 (by decide) ?_
      refine E_icmp_eq dX11_item_29 (fun c29 => ?_) (fun c29 => ?_)
      · obtain ⟨n, hn, e1, en, eH⟩ := (hL i hi).2.2.1 c29
        refine E_aload_n dX11_item_35 rfl ?_
        refine L_get fX11_44 dX11_item_36 (by decide) sh_0 rfl ?_
        refine E_iload_n dX11_item_39 rfl ?_
        refine L_aald (j := i) dX11_item_40 (by decide) sh_8 rfl ei hi (by decide) (if_pos hi) ?_
        refine E_astore_n dX11_item_41 (by decide) ?_
        refine E_aload_n dX11_item_42 rfl ?_
        refine E_iload_n dX11_item_43 rfl ?_
        refine E_V1i vX11_285_5 dX11_item_44 (Nat.le_of_ble_eq_true rfl) (by have := ((isR_l hi)).lt; omega) ((sh_R (isR_l hi)) _) (s_X5_hasPlace (isR_l hi) e1 hn (fun gp => ?_) (fun gp => ?_))
        · obtain ⟨k, hk, ek, ik⟩ := ix_some (by omega) gp
          refine E_if_ne dX11_item_47 (fun _ => ?_) (fun c => absurd c (by decide))
          refine E_aload_n dX11_item_54 rfl ?_
          refine E_iload_n dX11_item_55 rfl ?_
          refine E_V1i vX11_300_5 dX11_item_56 (Nat.le_of_ble_eq_true rfl) (by have := ((isR_l hi)).lt; omega) ((sh_R (isR_l hi)) _) (s_X5_isNumber (isR_l hi) ek (show k < 24 by omega) (fun gz => ?_) (fun gz => ?_))
          · rw [eH k (by omega)] at gz
            refine E_if_eq dX11_item_59 (fun c => absurd c (by decide)) (fun _ => ?_)
            refine E_aload_n dX11_item_62 rfl ?_
            refine L_get fX11_292 dX11_item_63 (by have := ((isR_l hi)).lt; omega) (sh_R (isR_l hi)) rfl ?_
            refine E_iload_n dX11_item_66 rfl ?_
            refine L_iald (j := k) dX11_item_67 (by have := ((isR_l hi)).lt; omega) (sh_Rp (isR_l hi)) ek (by omega) (by decide) ?_
            rw [eH k (by omega)]
            refine E_goto dX11_item_68 ?_
            refine E_iret dX11_item_73 rfl rfl ?_
            rw [itemR, ii, Option.elim, if_neg c16, if_pos c29, en, nI_clamp (by omega), ik, Option.elim, if_neg gz] at hq
            exact hq
          · rw [eH k (by omega)] at gz
            refine E_if_eq dX11_item_59 (fun _ => ?_) (fun c => absurd (by decide) c)
            refine E_ldc dX11_item_71 kX11_152 ?_
            refine E_iret dX11_item_73 rfl rfl ?_
            rw [itemR, ii, Option.elim, if_neg c16, if_pos c29, en, nI_clamp (by omega), ik, Option.elim, if_pos gz] at hq
            exact hq
        · have ik := ix_none (by omega) gp
          refine E_if_ne dX11_item_47 (fun c => absurd rfl c) (fun _ => ?_)
          refine E_ldcw dX11_item_50 kX11_288 ?_
          refine E_iret dX11_item_53 rfl rfl ?_
          rw [itemR, ii, Option.elim, if_neg c16, if_pos c29, en, nI_clamp (by omega), ik] at hq
          exact hq
      · refine E_ldc dX11_item_32 kX11_152 ?_
        refine E_iret dX11_item_34 rfl rfl ?_
        rw [itemR, ii, Option.elim, if_neg c16, if_neg c29] at hq
        exact hq
    · refine E_ldc dX11_item_19 kX11_244 ?_
      refine E_iret dX11_item_21 rfl rfl ?_
      rw [itemR, ii, Option.elim, if_pos c16] at hq
      exact hq
  · have ii := ix_none (by omega) g1
    refine E_if_ne dX11_item_4 (fun c => absurd rfl c) (fun _ => ?_)
    refine E_ldc dX11_item_7 kX11_105 ?_
    refine E_iret dX11_item_9 rfl rfl ?_
    rw [itemR, ii] at hq
    exact hq
theorem s_X12_rest {Q : Int32 → HP → Prop} {L : SL} (hL : RSl S L) {x y : Int32} (hq : Q (restR L x y) (lay Θ S)) : C Θ (d + 2) 0 0 yX12_rest cX12_rest 3 (some .int) [.ref (tb Θ + 159), .int x, .int y] 183 (lay Θ S) (Qi Q) := by
  refine C_of rfl rfl (Nat.le_of_ble_eq_true rfl) ?_
  refine E_iload_n dX12_rest_0 rfl ?_
  refine E_S1i sX12_278 dX12_rest_1 (Nat.le_of_ble_eq_true rfl) (s_X12_isSlot (fun g1 => ?_) (fun g1 => ?_))
  · obtain ⟨i, hi, ei, ii⟩ := ix_some (by omega) g1
    refine E_if_ne dX12_rest_4 (fun _ => ?_) (fun c => absurd c (by decide))
    refine E_aload_n dX12_rest_10 rfl ?_
    refine L_get fX12_63 dX12_rest_11 (by decide) sh_159 rfl ?_
    refine E_iload_n dX12_rest_14 rfl ?_
    refine L_iald (j := i) dX12_rest_15 (by decide) sh_177 ei hi (by decide) ?_
    rw [(hL i hi).1]
    refine E_if_ne dX12_rest_16 (fun c16 => ?_) (fun c16 => ?_)
    · refine E_aload_n dX12_rest_22 rfl ?_
      refine L_get fX12_63 dX12_rest_23 (by decide) sh_159 rfl ?_
      refine E_iload_n dX12_rest_26 rfl ?_
      refine L_iald (j := i) dX12_rest_27 (by decide) sh_177 ei hi (by decide) ?_
      rw [(hL i hi).1]
      refine E_ic (v := 3) dX12_rest_28 (by decide) ?_
      refine E_icmp_eq dX12_rest_29 (fun c29 => ?_) (fun c29 => ?_)
      · refine E_iload_n dX12_rest_35 rfl ?_
        refine E_if_ne dX12_rest_36 (fun c36 => ?_) (fun c36 => ?_)
        · refine E_iload_n dX12_rest_44 rfl ?_
          refine E_ic (v := (-1)) dX12_rest_45 (by decide) ?_
          refine E_icmp_ne dX12_rest_46 (fun c46 => ?_) (fun c46 => ?_)
          · refine E_aload_n dX12_rest_53 rfl ?_
            refine L_get fX12_66 dX12_rest_54 (by decide) sh_159 rfl ?_
            refine E_iload_n dX12_rest_57 rfl ?_
            refine L_iald (j := i) dX12_rest_58 (by decide) sh_178 ei hi (by decide) ?_
            rw [(hL i hi).2.1]
            refine E_iload_n dX12_rest_59 rfl ?_
            refine E_irem dX12_rest_60 c36 ?_
            refine E_iret dX12_rest_61 rfl rfl ?_
            rw [restR, ii, Option.elim, if_neg c16, if_pos c29, if_neg c36] at hq
            exact hq
          · refine E_ic (v := 0) dX12_rest_49 (by decide) ?_
            refine E_goto dX12_rest_50 ?_
            refine E_iret dX12_rest_61 rfl rfl ?_
            rw [restR, ii, Option.elim, if_neg c16, if_pos c29, if_neg c36, c46, rem_m1] at hq
            exact hq
        · refine E_ldc dX12_rest_39 kX12_130 ?_
          refine E_goto dX12_rest_41 ?_
          refine E_iret dX12_rest_61 rfl rfl ?_
          rw [restR, ii, Option.elim, if_neg c16, if_pos c29, if_pos c36] at hq
          exact hq
      · refine E_ldc dX12_rest_32 kX12_129 ?_
        refine E_iret dX12_rest_34 rfl rfl ?_
        rw [restR, ii, Option.elim, if_neg c16, if_neg c29] at hq
        exact hq
    · refine E_ldc dX12_rest_19 kX12_205 ?_
      refine E_iret dX12_rest_21 rfl rfl ?_
      rw [restR, ii, Option.elim, if_pos c16] at hq
      exact hq
  · have ii := ix_none (by omega) g1
    refine E_if_ne dX12_rest_4 (fun c => absurd rfl c) (fun _ => ?_)
    refine E_ldc dX12_rest_7 kX12_107 ?_
    refine E_iret dX12_rest_9 rfl rfl ?_
    rw [restR, ii] at hq
    exact hq
theorem s_X11_rest {Q : Int32 → HP → Prop} {L : SL} (hL : CSl S L) {x y : Int32} (hq : Q (restR L x y) (lay Θ S)) : C Θ (d + 2) 0 0 yX11_rest cX11_rest 3 (some .int) [.ref (tb Θ + 0), .int x, .int y] 183 (lay Θ S) (Qi Q) := by
  refine C_of rfl rfl (Nat.le_of_ble_eq_true rfl) ?_
  refine E_iload_n dX11_rest_0 rfl ?_
  refine E_S1i sX11_315 dX11_rest_1 (Nat.le_of_ble_eq_true rfl) (s_X11_isSlot (fun g1 => ?_) (fun g1 => ?_))
  · obtain ⟨i, hi, ei, ii⟩ := ix_some (by omega) g1
    refine E_if_ne dX11_rest_4 (fun _ => ?_) (fun c => absurd c (by decide))
    refine E_aload_n dX11_rest_10 rfl ?_
    refine L_get fX11_34 dX11_rest_11 (by decide) sh_0 rfl ?_
    refine E_iload_n dX11_rest_14 rfl ?_
    refine L_iald (j := i) dX11_rest_15 (by decide) sh_6 ei hi (by decide) ?_
    rw [(hL i hi).1]
    refine E_if_ne dX11_rest_16 (fun c16 => ?_) (fun c16 => ?_)
    · refine E_aload_n dX11_rest_22 rfl ?_
      refine L_get fX11_34 dX11_rest_23 (by decide) sh_0 rfl ?_
      refine E_iload_n dX11_rest_26 rfl ?_
      refine L_iald (j := i) dX11_rest_27 (by decide) sh_6 ei hi (by decide) ?_
      rw [(hL i hi).1]
      refine E_ic (v := 3) dX11_rest_28 (by decide) ?_
      refine E_icmp_eq dX11_rest_29 (fun c29 => ?_) (fun c29 => ?_)
      · refine E_iload_n dX11_rest_35 rfl ?_
        refine E_if_ne dX11_rest_36 (fun c36 => ?_) (fun c36 => ?_)
        · refine E_aload_n dX11_rest_44 rfl ?_
          refine L_get fX11_47 dX11_rest_45 (by decide) sh_0 rfl ?_
          refine E_iload_n dX11_rest_48 rfl ?_
          refine L_iald (j := i) dX11_rest_49 (by decide) sh_9 ei hi (by decide) ?_
          rw [(hL i hi).2.2.2 c29]
          refine E_iload_n dX11_rest_50 rfl ?_
          refine E_irem dX11_rest_51 c36 ?_
          refine E_iret dX11_rest_52 rfl rfl ?_
          rw [restR, ii, Option.elim, if_neg c16, if_pos c29, if_neg c36] at hq
          exact hq
        · refine E_ldc dX11_rest_39 kX11_153 ?_
          refine E_goto dX11_rest_41 ?_
          refine E_iret dX11_rest_52 rfl rfl ?_
          rw [restR, ii, Option.elim, if_neg c16, if_pos c29, if_pos c36] at hq
          exact hq
      · refine E_ldc dX11_rest_32 kX11_152 ?_
        refine E_iret dX11_rest_34 rfl rfl ?_
        rw [restR, ii, Option.elim, if_neg c16, if_neg c29] at hq
        exact hq
    · refine E_ldc dX11_rest_19 kX11_244 ?_
      refine E_iret dX11_rest_21 rfl rfl ?_
      rw [restR, ii, Option.elim, if_pos c16] at hq
      exact hq
  · have ii := ix_none (by omega) g1
    refine E_if_ne dX11_rest_4 (fun c => absurd rfl c) (fun _ => ?_)
    refine E_ldc dX11_rest_7 kX11_105 ?_
    refine E_iret dX11_rest_9 rfl rfl ?_
    rw [restR, ii] at hq
    exact hq
end Sl
