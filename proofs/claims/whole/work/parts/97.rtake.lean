/-! PURE PART: the reference takes numbers and words -/
def RK (h : Hp) (o : Nat) (B : Int → Int) (L f : Int) : Prop := hE h o 11 = f ∧ hE h o 9 = toF B L f ∧ hE h o 12 = rkF B L f ∧ (rkF B L f = 3 → hE h o 13 = nuN B f (toF B L f - f)) ∧ hL h o 14 = ltF B L f
def Aff (o b k : Nat) : Prop := b = o ∧ k = 15
def Ata (o c b k : Nat) : Prop := (b = o ∧ (k = 9 ∨ k = 11 ∨ k = 12 ∨ k = 13 ∨ k = 14 ∨ k = 16 ∨ k = 17 ∨ k = 22)) ∨ (b = o + 10 ∧ k = c)
def Awo (o : Nat) (w : Int) (b k : Nat) : Prop := (b = o ∧ (k = 9 ∨ k = 11 ∨ k = 12 ∨ k = 13 ∨ k = 14 ∨ k = 16 ∨ k = 17 ∨ k = 21 ∨ k = 22)) ∨ (b = o + 11 ∧ (k : Int) = w)
def Ard (o b k : Nat) : Prop := (b = o ∧ (k = 9 ∨ (11 ≤ k ∧ k ≤ 17) ∨ k = 21 ∨ k = 22)) ∨ b = o + 10 ∨ b = o + 11
theorem Ard_t {o c b k : Nat} (q : Ata o c b k) : Ard o b k := by
  unfold Ata at q
  unfold Ard
  omega
theorem Ard_w {o b k : Nat} {w : Int} (q : Awo o w b k) : Ard o b k := by
  unfold Awo at q
  unfold Ard
  omega
theorem Ard_f {o b k : Nat} (q : Aff o b k) : Ard o b k := by
  unfold Aff at q
  unfold Ard
  omega
theorem Ard_n {o b k : Nat} (q : ARk o b k) : Ard o b k := by
  unfold ARk at q
  unfold Ard
  omega
theorem let_step {B : Int → Int} {L p : Int} (pL : p ≤ L) (c : ckF B L p = 1) : toF B L p + (if ckF B L (nxF B L p) = 1 then 1 else 0) ≤ nxF B L p := by
  have a := ck_let c pL
  have b := fr_rg (B := B) (i := toF B L p) a.2.2.1
  by_cases c2 : ckF B L (nxF B L p) = 1
  · rw [if_pos c2]
    by_cases q : nxF B L p = toF B L p
    · exfalso
      have cl : leB (B p) = true := by
        have := a.2.2.2 p (Int.le_refl p) a.2.1
        unfold leB
        exact decide_eq_true this
      have e : toF B L p = adv (fun k => leB (B k)) L p := by
        unfold toF
        rw [if_neg (by omega), if_pos cl]
      obtain ⟨s1, s2, s3, s4⟩ := adv_spec (fun k => leB (B k)) pL
      rw [← e] at s4
      have n := nx_rg (B := B) pL
      have c3 := ck_let c2 n.2.1
      have l := c3.2.2.2 (nxF B L p) (Int.le_refl _) c3.2.1
      have z : leB (B (toF B L p)) = false := s4 (by omega)
      rw [← q] at z
      unfold leB at z
      exact of_decide_eq_false z l
    · unfold nxF at *
      omega
  · rw [if_neg c2]
    unfold nxF
    omega
section RTk
variable {h : Hp} {o : Nat} {B : Int → Int} {L p e gd w : Int}
theorem RP.ata {h' : Hp} (H : RP h o B L) (F : FR (Ard o) h h') : RP h' o B L := by
  refine H.frame F ?_ (fun k => ?_) <;> · unfold Ard; omega
theorem RK.next (K : RK h o B L p) (H : RP h o B L) (p0 : 0 ≤ p) (pL : p ≤ L) : ∃ h', m_X12_token o h = some h' ∧ FR (ARk o) h h' ∧ RK h' o B L (nxF B L p) := by
  have t := to_rg (B := B) pL
  obtain ⟨h', e1, F, k1, k2, k3, k4, k5⟩ := H.token K.2.1 (by omega) t.2.1
  exact ⟨h', e1, F, k1, k2, k3, k4, k5⟩
theorem RK.fails (K : RK h o B L p) (H : RP h o B L) : ∃ h', m_X12_fails o h = some (J 0, h') ∧ FR (Aff o) h h' ∧ hE h' o 15 = p := by
  have rg := hE_rg h o 11
  rw [K.1] at rg
  have e1 : gfI h o 12 11 = some (J p) := by rw [H.fI]; exact congrArg (fun z => some (J z)) K.1
  have e2 : pfI h o 12 15 (J p) = some (wE h o 15 p) := H.pI
  refine ⟨wE h o 15 p, ?_, FR.wE (A := Aff o) ⟨rfl, rfl⟩, ?_⟩
  · simp only [m_X12_fails, e1, e2, bs, l0]
  · rw [hE_wE (by omega) (by omega) rg.1 rg.2, if_pos ⟨rfl, rfl⟩]
theorem RK.f12 (K : RK h o B L p) (H : RP h o B L) : gfI h o 12 12 = some (J (rkF B L p)) := by rw [H.fI]; exact congrArg (fun z => some (J z)) K.2.2.1
theorem RK.f11 (K : RK h o B L p) (H : RP h o B L) : gfI h o 12 11 = some (J p) := by rw [H.fI]; exact congrArg (fun z => some (J z)) K.1
theorem rk_rg : 0 ≤ rkF B L p ∧ rkF B L p ≤ 4 := by
  rw [rk_ck]
  repeat' split
  all_goals omega
theorem rk_3 : rkF B L p = 3 ↔ ckF B L p = 2 := by
  have := ck_rg (B := B) (L := L) (f := p)
  rw [rk_ck]
  repeat' split
  all_goals omega
theorem rk_2 : rkF B L p = 2 ↔ ckF B L p = 1 := by
  have := ck_rg (B := B) (L := L) (f := p)
  rw [rk_ck]
  repeat' split
  all_goals omega
theorem rk_4 : rkF B L p = 4 ↔ ckF B L p = 3 := by
  have := ck_rg (B := B) (L := L) (f := p)
  rw [rk_ck]
  repeat' split
  all_goals omega
theorem rk_0 : rkF B L p = 0 ↔ ckF B L p = 0 := by
  have := ck_rg (B := B) (L := L) (f := p)
  rw [rk_ck]
  repeat' split
  all_goals omega
theorem RK.noTake (K : RK h o B L p) (H : RP h o B L) (c : ckF B L p ≠ 2) {x y z : Int32} : ∃ h', m_X12_take o x y z h = some (J 0, h') ∧ FR (Aff o) h h' ∧ hE h' o 15 = p := by
  obtain ⟨h', e1, F, v⟩ := K.fails H
  refine ⟨h', ?_, F, v⟩
  have rg := rk_rg (B := B) (L := L) (p := p)
  have c3 := rk_3 (B := B) (L := L) (p := p)
  have f12 := K.f12 H
  generalize rkF B L p = y at *
  have c' : y < 3 ∨ 3 < y := by omega
  simp (disch := first | omega | exact c') only [m_X12_take, f12, rc_ok H.tag, e1, zb0, lm8, lm2, lm1, l0, l1, l2, l3, l4, l5, l6, l7, l8, l9, l10, l11, l12, l13, l14, l15, l16, l17, l18, l19, l20, l21, l22, l23, l24, l25, l27, l31, l32, l40, l46, l48, l50, l57, l59, l63, l86, l96, l97, l100, l110, l114, l122, l127, l200, l255, l300, l319, l320, l340, l441, l456, l580, l600, l800, l886, l1206, l1526, J_add, J_sub, J_mul, J_neg, J_lt, J_le, J_eq, jT, jF, iT, iF, eT, eF, aT, aF, ite_true, ite_false, ite_not, bs]
theorem RK.noWord (K : RK h o B L p) (H : RP h o B L) (c : ckF B L p ≠ 1) : ∃ h', m_X12_takeWord o h = some (J 0, h') ∧ FR (Aff o) h h' ∧ hE h' o 15 = p := by
  obtain ⟨h', e1, F, v⟩ := K.fails H
  refine ⟨h', ?_, F, v⟩
  have rg := rk_rg (B := B) (L := L) (p := p)
  have c2 := rk_2 (B := B) (L := L) (p := p)
  have f12 := K.f12 H
  generalize rkF B L p = y at *
  have c' : y < 2 ∨ 2 < y := by omega
  simp (disch := first | omega | exact c') only [m_X12_takeWord, f12, rc_ok H.tag, e1, zb0, lm8, lm2, lm1, l0, l1, l2, l3, l4, l5, l6, l7, l8, l9, l10, l11, l12, l13, l14, l15, l16, l17, l18, l19, l20, l21, l22, l23, l24, l25, l27, l31, l32, l40, l46, l48, l50, l57, l59, l63, l86, l96, l97, l100, l110, l114, l122, l127, l200, l255, l300, l319, l320, l340, l441, l456, l580, l600, l800, l886, l1206, l1526, J_add, J_sub, J_mul, J_neg, J_lt, J_le, J_eq, jT, jF, iT, iF, eT, eF, aT, aF, ite_true, ite_false, ite_not, bs]
theorem RK.take (K : RK h o B L p) (H : RP h o B L) (p0 : 0 ≤ p) (pL : p ≤ L) (c : ckF B L p = 2) (E : ENr h o e) (hg : hE h o 22 = gd) {k lo hi : Int} (k0 : 0 ≤ k) (k1 : k < 4) (lo0 : -1000 ≤ lo) (lo1 : lo ≤ 1000) (hi0 : -1000 ≤ hi) (hi1 : hi ≤ 1000) : ∃ h', m_X12_take o (J k) (J lo) (J hi) h = some (J 1, h') ∧ FR (Ata o k.toNat) h h' ∧ RK h' o B L (nxF B L p) ∧ ENr h' o (min e (if nuN B p (toF B L p - p) < lo ∨ hi < nuN B p (toF B L p - p) then 8 * p + 2 else 9999)) ∧ hE h' (o + 10) k = nuN B p (toF B L p - p) ∧ hE h' o 22 = (if nuN B p (toF B L p - p) < lo ∨ hi < nuN B p (toF B L p - p) then 0 else gd) := by
  have n := ck_num c pL
  have hL2 := H.2.1.2.1
  have f12 := K.f12 H
  have r3 := (rk_3 (B := B) (L := L) (p := p)).mpr c
  rw [r3] at f12
  have v13 := K.2.2.2.1 r3
  have vr := n.2.2.2.2
  generalize nuN B p (toF B L p - p) = v at *
  have le := E.le
  have T := H.1
  have e13 : gfI h o 12 13 = some (J v) := by rw [H.fI]; exact congrArg (fun z => some (J z)) v13
  have s1 : asI h (o + 10) (J k) (J v) = some (wE h (o + 10) k v) := asI_ok T.a19 k0 (by omega) (by omega)
  have F1 : FR (Ata o k.toNat) h (wE h (o + 10) k v) := FR.wE (A := Ata o k.toNat) (Or.inr ⟨rfl, rfl⟩)
  have c1 : ∀ b j, 0 ≤ j → hE (wE h (o + 10) k v) b j = if b = o + 10 ∧ j = k then v else hE h b j := fun b j j0 => hE_wE k0 j0 (by omega) (by omega)
  have hl1 : hL (wE h (o + 10) k v) o 14 = hL h o 14 := rfl
  generalize wE h (o + 10) k v = g1 at *
  have H1 : RP g1 o B L := H.ata (F1.mono (fun b k q => Ard_t q))
  have e13' : gfI g1 o 12 13 = some (J v) := by rw [H1.fI]; exact congrArg (fun z => some (J z)) ((c1 o 13 (by omega)).trans (by rw [if_neg (by omega), v13]))
  have K1 : RK g1 o B L p := by
    obtain ⟨a1, a2, a3, a4, a5⟩ := K
    refine ⟨by rw [c1 _ _ (by omega), if_neg (by omega), a1], by rw [c1 _ _ (by omega), if_neg (by omega), a2], by rw [c1 _ _ (by omega), if_neg (by omega), a3], fun q => by rw [c1 _ _ (by omega), if_neg (by omega), a4 q], by rw [hl1, a5]⟩
  have E1 : ENr g1 o e := by
    obtain ⟨s, q, hs, hp, rest⟩ := E
    exact ⟨s, q, by rw [c1 _ _ (by omega), if_neg (by omega), hs], by rw [c1 _ _ (by omega), if_neg (by omega), hp], rest⟩
  have g22 : hE g1 o 22 = gd := by rw [c1 _ _ (by omega), if_neg (by omega), hg]
  have vk : hE g1 (o + 10) k = v := by rw [c1 _ _ k0, if_pos ⟨rfl, rfl⟩]
  by_cases b : v < lo ∨ hi < v
  · rw [if_pos b, if_pos b]
    have ei : m_X12_in (J v) (J lo) (J hi) g1 = some (J 0) := X12_in_F b (by omega) (by omega) (by omega)
    obtain ⟨g2, n2, F2, E2⟩ := E1.note H1.tag (s' := 2) (p' := p) (by omega) (by omega) (by omega) (by omega)
    have F2' : FR (Ata o k.toNat) g1 g2 := F2.mono (fun b k q => Or.inl ⟨q.1, by have := q.2; omega⟩)
    have H2 : RP g2 o B L := H1.ata (F2'.mono (fun b k q => Ard_t q))
    have p22 : pfI g2 o 12 22 (J 0) = some (wE g2 o 22 0) := H2.pI
    have F3 : FR (Ata o k.toNat) g2 (wE g2 o 22 0) := FR.wE (A := Ata o k.toNat) (Or.inl ⟨rfl, by omega⟩)
    have c3 : ∀ b j, 0 ≤ j → hE (wE g2 o 22 0) b j = if b = o ∧ j = 22 then 0 else hE g2 b j := fun b j j0 => hE_wE (by omega) j0 (by omega) (by omega)
    have hl3 : hL (wE g2 o 22 0) o 14 = hL g2 o 14 := rfl
    generalize wE g2 o 22 0 = g3 at *
    have H3 : RP g3 o B L := H2.ata (F3.mono (fun b k q => Ard_t q))
    have K3 : RK g3 o B L p := by
      obtain ⟨a1, a2, a3, a4, a5⟩ := K1
      refine ⟨by rw [c3 _ _ (by omega), if_neg (by omega), F2.e (by unfold Afr; omega), a1], by rw [c3 _ _ (by omega), if_neg (by omega), F2.e (by unfold Afr; omega), a2], by rw [c3 _ _ (by omega), if_neg (by omega), F2.e (by unfold Afr; omega), a3], fun q => by rw [c3 _ _ (by omega), if_neg (by omega), F2.e (by unfold Afr; omega), a4 q], by rw [hl3, F2.l (by unfold Afr; omega), a5]⟩
    have E3 : ENr g3 o (min e (8 * p + 2)) := by
      obtain ⟨s, q, hs, hp, rest⟩ := E2
      exact ⟨s, q, by rw [c3 _ _ (by omega), if_neg (by omega), hs], by rw [c3 _ _ (by omega), if_neg (by omega), hp], rest⟩
    obtain ⟨g4, e4, F4, K4⟩ := K3.next H3 p0 pL
    have F4' : FR (Ata o k.toNat) g3 g4 := F4.mono (fun b k q => Or.inl ⟨q.1, by have := q.2; omega⟩)
    refine ⟨g4, ?_, ((F1.trans F2').trans F3).trans F4', K4, E3.frame F4 (by unfold ARk; omega) (by unfold ARk; omega), ?_, ?_⟩
    · simp (disch := omega) only [m_X12_take, j_X12_take_49, f12, T.r19, e13, s1, e13', ei, K1.f11 H1, rc_ok H1.tag, n2, p22, rc_ok H3.tag, e4, lm8, lm2, lm1, l0, l1, l2, l3, l4, l5, l6, l7, l8, l9, l10, l11, l12, l13, l14, l15, l16, l17, l18, l19, l20, l21, l22, l23, l24, l25, l27, l31, l32, l40, l46, l48, l50, l57, l59, l63, l86, l96, l97, l100, l110, l114, l122, l127, l200, l255, l300, l319, l320, l340, l441, l456, l580, l600, l800, l886, l1206, l1526, J_add, J_sub, J_mul, J_neg, J_lt, J_le, J_eq, jT, jF, iT, iF, eT, eF, aT, aF, ite_true, ite_false, ite_not, bs]
    · rw [F4.e (by unfold ARk; omega), c3 _ _ k0, if_neg (by omega), F2.e (by unfold Afr; omega), vk]
    · rw [F4.e (by unfold ARk; omega), c3 _ _ (by omega), if_pos ⟨rfl, rfl⟩]
  · rw [if_neg b, if_neg b, show min e 9999 = e by omega]
    have ei : m_X12_in (J v) (J lo) (J hi) g1 = some (J 1) := X12_in_T (by omega) (by omega) (by omega)
    obtain ⟨g4, e4, F4, K4⟩ := K1.next H1 p0 pL
    have F4' : FR (Ata o k.toNat) g1 g4 := F4.mono (fun b k q => Or.inl ⟨q.1, by have := q.2; omega⟩)
    refine ⟨g4, ?_, F1.trans F4', K4, E1.frame F4 (by unfold ARk; omega) (by unfold ARk; omega), ?_, ?_⟩
    · simp (disch := omega) only [m_X12_take, j_X12_take_49, f12, T.r19, e13, s1, e13', ei, rc_ok H1.tag, e4, lm8, lm2, lm1, l0, l1, l2, l3, l4, l5, l6, l7, l8, l9, l10, l11, l12, l13, l14, l15, l16, l17, l18, l19, l20, l21, l22, l23, l24, l25, l27, l31, l32, l40, l46, l48, l50, l57, l59, l63, l86, l96, l97, l100, l110, l114, l122, l127, l200, l255, l300, l319, l320, l340, l441, l456, l580, l600, l800, l886, l1206, l1526, J_add, J_sub, J_mul, J_neg, J_lt, J_le, J_eq, jT, jF, iT, iF, eT, eF, aT, aF, ite_true, ite_false, ite_not, bs]
    · rw [F4.e (by unfold ARk; omega), vk]
    · rw [F4.e (by unfold ARk; omega), g22]
theorem RK.word (K : RK h o B L p) (H : RP h o B L) (p0 : 0 ≤ p) (pL : p ≤ L) (c : ckF B L p = 1) (E : ENr h o e) (hg : hE h o 22 = gd) (hw : hE h o 21 = w) (w0 : 0 ≤ w) (w1 : w < 300) : ∃ h', m_X12_takeWord o h = some (J 1, h') ∧ FR (Awo o w) h h' ∧ RK h' o B L (nxF B L p) ∧ ENr h' o (min e (if 4 < toF B L p - p then 8 * p + 2 else 9999)) ∧ (¬ 4 < toF B L p - p → hE h' (o + 11) w = wdN B p (toF B L p - p)) ∧ hE h' o 22 = (if 4 < toF B L p - p then 0 else gd) ∧ hE h' o 21 = w + 1 := by
  have n := ck_let c pL
  have hL2 := H.2.1.2.1
  have f12 := K.f12 H
  have r2 := (rk_2 (B := B) (L := L) (p := p)).mpr c
  rw [r2] at f12
  have le := E.le
  have T := H.1
  have e9 : gfI h o 12 9 = some (J (toF B L p)) := by rw [H.fI]; exact congrArg (fun z => some (J z)) K.2.1
  have e11 := K.f11 H
  -- the tail
  have tail : ∀ (g : Hp) (X G : Int), RP g o B L → RK g o B L p → ENr g o X → hE g o 22 = G → hE g o 21 = w → ∃ h', j_X12_takeWord_40 o g = some (J 1, h') ∧ FR (Awo o w) g h' ∧ RK h' o B L (nxF B L p) ∧ ENr h' o X ∧ (¬ 4 < toF B L p - p → hE h' (o + 11) w = wdN B p (toF B L p - p)) ∧ hE h' o 22 = G ∧ hE h' o 21 = w + 1 := fun g X G Hg Kg Eg gG gw => by
    have Tg := Hg.1
    have e21 : gfI g o 12 21 = some (J w) := by rw [Hg.fI]; exact congrArg (fun z => some (J z)) gw
    obtain ⟨N, en, vn⟩ : ∃ N : Int32, m_X12_numberOf (hL g o 14) g = some N ∧ (¬ 4 < toF B L p - p → N = J (wdN B p (toF B L p - p))) := by
      by_cases q : 4 < toF B L p - p
      · exact ⟨_, X12_numberOf_ok _, fun y => absurd q y⟩
      · have lt : ltF B L p = ltI B p (toF B L p - p).toNat := by
          unfold ltF
          rw [if_pos r2, if_pos (by omega)]
        have := X12_numberOf_word (h := g) (B := B) (f := p) (n := (toF B L p - p).toNat) (by omega) (by omega) (fun j hj => n.2.2.2 _ (by omega) (by omega))
        rw [← lt, ← Kg.2.2.2.2, show (((toF B L p - p).toNat : Nat) : Int) = toF B L p - p by omega] at this
        exact ⟨_, this, fun _ => rfl⟩
    have rg := J_rg N
    have eN : N = J N.toInt := (J_inv N).symm
    generalize hz : N.toInt = z at *
    have vz : ¬ 4 < toF B L p - p → z = wdN B p (toF B L p - p) := fun q => by
      have h1 := vn q
      have h2 : 0 ≤ wdN B p (toF B L p - p) ∧ wdN B p (toF B L p - p) < 531441 := by
        have := (sp_wide n.2.1 (by omega) n.2.2.2).1
        unfold wrg at this
        omega
      rw [eN] at h1
      exact J_inj rg.1 rg.2 (by omega) (by omega) h1
    rw [eN] at en
    have s1 : asI g (o + 11) (J w) (J z) = some (wE g (o + 11) w z) := asI_ok Tg.a20 w0 (by omega) (by omega)
    have F1 : FR (Awo o w) g (wE g (o + 11) w z) := FR.wE (A := Awo o w) (Or.inr ⟨rfl, by omega⟩)
    have c1 : ∀ b j, 0 ≤ j → hE (wE g (o + 11) w z) b j = if b = o + 11 ∧ j = w then z else hE g b j := fun b j j0 => hE_wE w0 j0 rg.1 rg.2
    have hl1 : hL (wE g (o + 11) w z) o 14 = hL g o 14 := rfl
    generalize wE g (o + 11) w z = g1 at *
    have H1 : RP g1 o B L := Hg.ata (F1.mono (fun b k q => Ard_w q))
    have e21' : gfI g1 o 12 21 = some (J w) := by rw [H1.fI]; exact congrArg (fun z => some (J z)) ((c1 o 21 (by omega)).trans (by rw [if_neg (by omega), gw]))
    have p21 : pfI g1 o 12 21 (J (w + 1)) = some (wE g1 o 21 (w + 1)) := H1.pI
    have F2 : FR (Awo o w) g1 (wE g1 o 21 (w + 1)) := FR.wE (A := Awo o w) (Or.inl ⟨rfl, by omega⟩)
    have c2 : ∀ b j, 0 ≤ j → hE (wE g1 o 21 (w + 1)) b j = if b = o ∧ j = 21 then w + 1 else hE g1 b j := fun b j j0 => hE_wE (by omega) j0 (by omega) (by omega)
    have hl2 : hL (wE g1 o 21 (w + 1)) o 14 = hL g1 o 14 := rfl
    generalize wE g1 o 21 (w + 1) = g2 at *
    have H2 : RP g2 o B L := H1.ata (F2.mono (fun b k q => Ard_w q))
    have same : ∀ j, 0 ≤ j → j ≠ 21 → hE g2 o j = hE g o j := fun j j0 j1 => by
      rw [c2 _ _ j0, if_neg (by omega), c1 _ _ j0, if_neg (by omega)]
    have K2 : RK g2 o B L p := by
      obtain ⟨a1, a2, a3, a4, a5⟩ := Kg
      exact ⟨by rw [same _ (by omega) (by omega), a1], by rw [same _ (by omega) (by omega), a2], by rw [same _ (by omega) (by omega), a3], fun q => by rw [same _ (by omega) (by omega), a4 q], by rw [hl2, hl1, a5]⟩
    have E2 : ENr g2 o X := by
      obtain ⟨s, q, hs, hp, rest⟩ := Eg
      exact ⟨s, q, by rw [same _ (by omega) (by omega), hs], by rw [same _ (by omega) (by omega), hp], rest⟩
    obtain ⟨g4, e4, F4, K4⟩ := K2.next H2 p0 pL
    have F4' : FR (Awo o w) g2 g4 := F4.mono (fun b k q => Or.inl ⟨q.1, by have := q.2; omega⟩)
    refine ⟨g4, ?_, (F1.trans F2).trans F4', K4, E2.frame F4 (by unfold ARk; omega) (by unfold ARk; omega), fun q => ?_, ?_, ?_⟩
    · simp (disch := omega) only [j_X12_takeWord_40, Tg.r20, e21, Hg.fJ, en, s1, e21', p21, rc_ok H2.tag, e4, lm8, lm2, lm1, l0, l1, l2, l3, l4, l5, l6, l7, l8, l9, l10, l11, l12, l13, l14, l15, l16, l17, l18, l19, l20, l21, l22, l23, l24, l25, l27, l31, l32, l40, l46, l48, l50, l57, l59, l63, l86, l96, l97, l100, l110, l114, l122, l127, l200, l255, l300, l319, l320, l340, l441, l456, l580, l600, l800, l886, l1206, l1526, J_add, J_sub, J_mul, J_neg, J_lt, J_le, J_eq, jT, jF, iT, iF, eT, eF, aT, aF, ite_true, ite_false, ite_not, bs]
    · rw [F4.e (by unfold ARk; omega), c2 _ _ w0, if_neg (by omega), c1 _ _ w0, if_pos ⟨rfl, rfl⟩, vz q]
    · rw [F4.e (by unfold ARk; omega), same _ (by omega) (by omega), gG]
    · rw [F4.e (by unfold ARk; omega), c2 _ _ (by omega), if_pos ⟨rfl, rfl⟩]
  by_cases b : 4 < toF B L p - p
  · rw [if_pos b, if_pos b]
    obtain ⟨g2, n2, F2, E2⟩ := E.note H.tag (s' := 2) (p' := p) (by omega) (by omega) (by omega) (by omega)
    have F2' : FR (Awo o w) h g2 := F2.mono (fun b k q => Or.inl ⟨q.1, by have := q.2; omega⟩)
    have H2 : RP g2 o B L := H.ata (F2'.mono (fun b k q => Ard_w q))
    have p22 : pfI g2 o 12 22 (J 0) = some (wE g2 o 22 0) := H2.pI
    have F3 : FR (Awo o w) g2 (wE g2 o 22 0) := FR.wE (A := Awo o w) (Or.inl ⟨rfl, by omega⟩)
    have c3 : ∀ b j, 0 ≤ j → hE (wE g2 o 22 0) b j = if b = o ∧ j = 22 then 0 else hE g2 b j := fun b j j0 => hE_wE (by omega) j0 (by omega) (by omega)
    have hl3 : hL (wE g2 o 22 0) o 14 = hL g2 o 14 := rfl
    generalize wE g2 o 22 0 = g3 at *
    have H3 : RP g3 o B L := H2.ata (F3.mono (fun b k q => Ard_w q))
    have K3 : RK g3 o B L p := by
      obtain ⟨a1, a2, a3, a4, a5⟩ := K
      refine ⟨by rw [c3 _ _ (by omega), if_neg (by omega), F2.e (by unfold Afr; omega), a1], by rw [c3 _ _ (by omega), if_neg (by omega), F2.e (by unfold Afr; omega), a2], by rw [c3 _ _ (by omega), if_neg (by omega), F2.e (by unfold Afr; omega), a3], fun q => by rw [c3 _ _ (by omega), if_neg (by omega), F2.e (by unfold Afr; omega), a4 q], by rw [hl3, F2.l (by unfold Afr; omega), a5]⟩
    have E3 : ENr g3 o (min e (8 * p + 2)) := by
      obtain ⟨s, q, hs, hp, rest⟩ := E2
      exact ⟨s, q, by rw [c3 _ _ (by omega), if_neg (by omega), hs], by rw [c3 _ _ (by omega), if_neg (by omega), hp], rest⟩
    obtain ⟨h', a1, a2, a3, a4, a5, a6, a7⟩ := tail g3 _ 0 H3 K3 E3 (by rw [c3 _ _ (by omega), if_pos ⟨rfl, rfl⟩]) (by rw [c3 _ _ (by omega), if_neg (by omega), F2.e (by unfold Afr; omega), hw])
    refine ⟨h', ?_, (F2'.trans F3).trans a2, a3, a4, a5, a6, a7⟩
    rw [← a1]
    simp (disch := omega) only [m_X12_takeWord, f12, e9, e11, rc_ok H.tag, n2, p22, lm8, lm2, lm1, l0, l1, l2, l3, l4, l5, l6, l7, l8, l9, l10, l11, l12, l13, l14, l15, l16, l17, l18, l19, l20, l21, l22, l23, l24, l25, l27, l31, l32, l40, l46, l48, l50, l57, l59, l63, l86, l96, l97, l100, l110, l114, l122, l127, l200, l255, l300, l319, l320, l340, l441, l456, l580, l600, l800, l886, l1206, l1526, J_add, J_sub, J_mul, J_neg, J_lt, J_le, J_eq, jT, jF, iT, iF, eT, eF, aT, aF, ite_true, ite_false, ite_not, bs]
  · rw [if_neg b, if_neg b, show min e 9999 = e by omega]
    obtain ⟨h', a1, a2, a3, a4, a5, a6, a7⟩ := tail h _ gd H K E hg hw
    refine ⟨h', ?_, a2, a3, a4, a5, a6, a7⟩
    rw [← a1]
    simp (disch := omega) only [m_X12_takeWord, f12, e9, e11, lm8, lm2, lm1, l0, l1, l2, l3, l4, l5, l6, l7, l8, l9, l10, l11, l12, l13, l14, l15, l16, l17, l18, l19, l20, l21, l22, l23, l24, l25, l27, l31, l32, l40, l46, l48, l50, l57, l59, l63, l86, l96, l97, l100, l110, l114, l122, l127, l200, l255, l300, l319, l320, l340, l441, l456, l580, l600, l800, l886, l1206, l1526, J_add, J_sub, J_mul, J_neg, J_lt, J_le, J_eq, jT, jF, iT, iF, eT, eF, aT, aF, ite_true, ite_false, ite_not, bs]
end RTk
