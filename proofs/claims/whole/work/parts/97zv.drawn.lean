/-! PURE PART: drawn, both sides -/
def tknT (T : Int → Int) (d : Int) : Int := sumZ (T 5) (fun t => b01 (decide (owT T t = d)))
/-- what is asked of a drawn archive -/
def dqV (T : Int → Int) (d w : Int) : Int := if w = 0 then T (1 + d) else if w = 1 then lnT T d (T (1 + d) - 1) else if w = 2 then tknT T d else if w < 10 then -1 else if w - 10 < lnT T d (T (1 + d) - 1) then wdT T (rwT T d (T (1 + d) - 1) (w - 10)) else -1
section DRN
variable {h : Hp} {x y o : Nat} {T : Int → Int} {S : Sx} {a s d n w dt : Int}
theorem CA.tokens (H : CA h o T) (d0 : 0 ≤ d) (d1 : d < 4) : m_X0_tokensOf o (J d) h = some (J (tknT T d)) := by
  have n5 := H.wf.n5
  have n0 := H.wf.n0
  have f1 := H.f1
  unfold m_X0_tokensOf l_X0_tokensOf_4 tknT
  refine loop_int (fun i => (J (sumZ i (fun t => b01 (decide (owT T t = d)))), J i)) (T 5) n5.1 (by omega) rfl (fun k i i0 i1 => ?_) (fun k => ?_)
  · have rg := H.wf.2.2.2.2.2.2.2 i i0 i1
    show b_X0_tokensOf_4 o (J d) h (fun v2q v3q => k (v2q, v3q)) (J (sumZ i (fun t => b01 (decide (owT T t = d))))) (J i) = _
    rw [sumZ_succ i0]
    by_cases p : owT T i = d
    · rw [decide_eq_true p]
      simp (disch := omega) only [b_X0_tokensOf_4, j_X0_tokensOf_27, f1, rc_ok H.tag, H.ownerOf i0 i1, lm8, lm2, lm1, l0, l1, l2, l3, l4, l5, l6, l7, l8, l9, l10, l11, l12, l13, l14, l15, l16, l17, l18, l19, l20, l21, l22, l23, l24, l25, l27, l31, l32, l40, l46, l48, l50, l57, l59, l63, l86, l96, l97, l100, l110, l114, l122, l127, l200, l255, l300, l319, l320, l340, l441, l456, l580, l600, l800, l886, l1206, l1526, J_add, J_sub, J_mul, J_neg, J_lt, J_le, J_eq, jT, jF, iT, iF, eT, eF, aT, aF, ite_true, ite_false, ite_not, bs]
      rfl
    · rw [decide_eq_false p]
      simp (disch := omega) only [b_X0_tokensOf_4, j_X0_tokensOf_27, f1, rc_ok H.tag, H.ownerOf i0 i1, lm8, lm2, lm1, l0, l1, l2, l3, l4, l5, l6, l7, l8, l9, l10, l11, l12, l13, l14, l15, l16, l17, l18, l19, l20, l21, l22, l23, l24, l25, l27, l31, l32, l40, l46, l48, l50, l57, l59, l63, l86, l96, l97, l100, l110, l114, l122, l127, l200, l255, l300, l319, l320, l340, l441, l456, l580, l600, l800, l886, l1206, l1526, J_add, J_sub, J_mul, J_neg, J_lt, J_le, J_eq, jT, jF, iT, iF, eT, eF, aT, aF, ite_true, ite_false, ite_not, bs]
      rfl
  · show b_X0_tokensOf_4 o (J d) h (fun v2q v3q => k (v2q, v3q)) (J (sumZ (T 5) (fun t => b01 (decide (owT T t = d))))) (J (T 5)) = _
    simp (disch := omega) only [b_X0_tokensOf_4, f1, lm8, lm2, lm1, l0, l1, l2, l3, l4, l5, l6, l7, l8, l9, l10, l11, l12, l13, l14, l15, l16, l17, l18, l19, l20, l21, l22, l23, l24, l25, l27, l31, l32, l40, l46, l48, l50, l57, l59, l63, l86, l96, l97, l100, l110, l114, l122, l127, l200, l255, l300, l319, l320, l340, l441, l456, l580, l600, l800, l886, l1206, l1526, J_add, J_sub, J_mul, J_neg, J_lt, J_le, J_eq, jT, jF, iT, iF, eT, eF, aT, aF, ite_true, ite_false, ite_not, bs]
theorem RT.tokens (H : RT h o T) (d0 : 0 ≤ d) (d1 : d < 4) : m_X12_tokensOf o (J d) h = some (J (tknT T d)) := by
  have n5 := H.2.1.n5
  have n0 := H.2.1.n0
  have f1 : alI h (o + 9) (J 5) = some (J (T 5)) := H.told (by omega) (by omega)
  unfold m_X12_tokensOf l_X12_tokensOf_4 tknT
  refine loop_int (fun i => (J (sumZ i (fun t => b01 (decide (owT T t = d)))), J i)) (T 5) n5.1 (by omega) rfl (fun k i i0 i1 => ?_) (fun k => ?_)
  · have rg := H.2.1.2.2.2.2.2.2.2 i i0 i1
    have e : alI h (o + 9) (J (1206 + i)) = some (J (owT T i)) := H.told (by omega) (by omega)
    show b_X12_tokensOf_4 o (J d) h (fun v2q v3q => k (v2q, v3q)) (J (sumZ i (fun t => b01 (decide (owT T t = d))))) (J i) = _
    rw [sumZ_succ i0]
    by_cases p : owT T i = d
    · rw [decide_eq_true p]
      simp (disch := omega) only [b_X12_tokensOf_4, j_X12_tokensOf_34, H.1.r18, f1, e, lm8, lm2, lm1, l0, l1, l2, l3, l4, l5, l6, l7, l8, l9, l10, l11, l12, l13, l14, l15, l16, l17, l18, l19, l20, l21, l22, l23, l24, l25, l27, l31, l32, l40, l46, l48, l50, l57, l59, l63, l86, l96, l97, l100, l110, l114, l122, l127, l200, l255, l300, l319, l320, l340, l441, l456, l580, l600, l800, l886, l1206, l1526, J_add, J_sub, J_mul, J_neg, J_lt, J_le, J_eq, jT, jF, iT, iF, eT, eF, aT, aF, ite_true, ite_false, ite_not, bs]
      rfl
    · rw [decide_eq_false p]
      simp (disch := omega) only [b_X12_tokensOf_4, j_X12_tokensOf_34, H.1.r18, f1, e, lm8, lm2, lm1, l0, l1, l2, l3, l4, l5, l6, l7, l8, l9, l10, l11, l12, l13, l14, l15, l16, l17, l18, l19, l20, l21, l22, l23, l24, l25, l27, l31, l32, l40, l46, l48, l50, l57, l59, l63, l86, l96, l97, l100, l110, l114, l122, l127, l200, l255, l300, l319, l320, l340, l441, l456, l580, l600, l800, l886, l1206, l1526, J_add, J_sub, J_mul, J_neg, J_lt, J_le, J_eq, jT, jF, iT, iF, eT, eF, aT, aF, ite_true, ite_false, ite_not, bs]
      rfl
  · show b_X12_tokensOf_4 o (J d) h (fun v2q v3q => k (v2q, v3q)) (J (sumZ (T 5) (fun t => b01 (decide (owT T t = d))))) (J (T 5)) = _
    simp (disch := omega) only [b_X12_tokensOf_4, H.1.r18, f1, lm8, lm2, lm1, l0, l1, l2, l3, l4, l5, l6, l7, l8, l9, l10, l11, l12, l13, l14, l15, l16, l17, l18, l19, l20, l21, l22, l23, l24, l25, l27, l31, l32, l40, l46, l48, l50, l57, l59, l63, l86, l96, l97, l100, l110, l114, l122, l127, l200, l255, l300, l319, l320, l340, l441, l456, l580, l600, l800, l886, l1206, l1526, J_add, J_sub, J_mul, J_neg, J_lt, J_le, J_eq, jT, jF, iT, iF, eT, eF, aT, aF, ite_true, ite_false, ite_not, bs]
theorem CA.askDrawn (H : CA h o T) (d0 : 0 ≤ d) (d1 : d < T 0) (w0 : -2147483648 ≤ w) (w1 : w < 2147483648) : ((rc h o 1 (m_X0_versionsOf o (J d) h)).bind fun x6 => if J w = (0 : Int32) then (some (((x6 - (1 : Int32)) + (1 : Int32)), h)) else if J w = (1 : Int32) then ((rc h o 1 (m_X0_lengthOf o (J d) (x6 - (1 : Int32)) h)).bind fun x7 => some (x7, h)) else if J w = (2 : Int32) then ((rc h o 1 (m_X0_tokensOf o (J d) h)).bind fun x8 => some (x8, h)) else if J w < (10 : Int32) then j_X11_drawn_136 (-1 : Int32) h else (rc h o 1 (m_X0_wordNumberAt o (J d) (x6 - (1 : Int32)) (J w - (10 : Int32)) h)).bind fun x9 => j_X11_drawn_136 x9 h) = some (J (dqV T d w), h) := by
  obtain ⟨hv, hl, hn⟩ := H.wf.last d0 d1
  have n0 := H.wf.n0
  have e1 := H.versionsOf d0 (show d < 4 by omega)
  have e2 := H.lengthOf hv
  have e3 := H.tokens d0 (show d < 4 by omega)
  unfold dqV
  by_cases c0 : w = 0
  · rw [if_pos c0]
    simp (disch := omega) only [rc_ok H.tag, e1, lm8, lm2, lm1, l0, l1, l2, l3, l4, l5, l6, l7, l8, l9, l10, l11, l12, l13, l14, l15, l16, l17, l18, l19, l20, l21, l22, l23, l24, l25, l27, l31, l32, l40, l46, l48, l50, l57, l59, l63, l86, l96, l97, l100, l110, l114, l122, l127, l200, l255, l300, l319, l320, l340, l441, l456, l580, l600, l800, l886, l1206, l1526, J_add, J_sub, J_mul, J_neg, J_lt, J_le, J_eq, jT, jF, iT, iF, eT, eF, aT, aF, ite_true, ite_false, ite_not, bs]
    rw [show T (1 + d) - 1 + 1 = T (1 + d) by omega]
  · rw [if_neg c0]
    by_cases c1 : w = 1
    · rw [if_pos c1]
      simp (disch := omega) only [rc_ok H.tag, e1, e2, lm8, lm2, lm1, l0, l1, l2, l3, l4, l5, l6, l7, l8, l9, l10, l11, l12, l13, l14, l15, l16, l17, l18, l19, l20, l21, l22, l23, l24, l25, l27, l31, l32, l40, l46, l48, l50, l57, l59, l63, l86, l96, l97, l100, l110, l114, l122, l127, l200, l255, l300, l319, l320, l340, l441, l456, l580, l600, l800, l886, l1206, l1526, J_add, J_sub, J_mul, J_neg, J_lt, J_le, J_eq, jT, jF, iT, iF, eT, eF, aT, aF, ite_true, ite_false, ite_not, bs]
    · rw [if_neg c1]
      by_cases c2 : w = 2
      · rw [if_pos c2]
        simp (disch := omega) only [rc_ok H.tag, e1, e3, lm8, lm2, lm1, l0, l1, l2, l3, l4, l5, l6, l7, l8, l9, l10, l11, l12, l13, l14, l15, l16, l17, l18, l19, l20, l21, l22, l23, l24, l25, l27, l31, l32, l40, l46, l48, l50, l57, l59, l63, l86, l96, l97, l100, l110, l114, l122, l127, l200, l255, l300, l319, l320, l340, l441, l456, l580, l600, l800, l886, l1206, l1526, J_add, J_sub, J_mul, J_neg, J_lt, J_le, J_eq, jT, jF, iT, iF, eT, eF, aT, aF, ite_true, ite_false, ite_not, bs]
      · rw [if_neg c2]
        by_cases c3 : w < 10
        · rw [if_pos c3]
          simp (disch := omega) only [rc_ok H.tag, e1, j_X11_drawn_136, lm8, lm2, lm1, l0, l1, l2, l3, l4, l5, l6, l7, l8, l9, l10, l11, l12, l13, l14, l15, l16, l17, l18, l19, l20, l21, l22, l23, l24, l25, l27, l31, l32, l40, l46, l48, l50, l57, l59, l63, l86, l96, l97, l100, l110, l114, l122, l127, l200, l255, l300, l319, l320, l340, l441, l456, l580, l600, l800, l886, l1206, l1526, J_add, J_sub, J_mul, J_neg, J_lt, J_le, J_eq, jT, jF, iT, iF, eT, eF, aT, aF, ite_true, ite_false, ite_not, bs]
        · rw [if_neg c3]
          have e4 := H.wordNumberAt (q := w - 10) hv (by omega) (by omega)
          have e5 : (if 0 ≤ w - 10 ∧ w - 10 < lnT T d (T (1 + d) - 1) then wdT T (rwT T d (T (1 + d) - 1) (w - 10)) else -1) = if w - 10 < lnT T d (T (1 + d) - 1) then wdT T (rwT T d (T (1 + d) - 1) (w - 10)) else -1 := by
            by_cases c5 : w - 10 < lnT T d (T (1 + d) - 1)
            · rw [if_pos c5, if_pos ⟨by omega, c5⟩]
            · rw [if_neg c5, if_neg (fun q => c5 q.2)]
          rw [e5] at e4
          simp (disch := omega) only [rc_ok H.tag, e1, e4, j_X11_drawn_136, lm8, lm2, lm1, l0, l1, l2, l3, l4, l5, l6, l7, l8, l9, l10, l11, l12, l13, l14, l15, l16, l17, l18, l19, l20, l21, l22, l23, l24, l25, l27, l31, l32, l40, l46, l48, l50, l57, l59, l63, l86, l96, l97, l100, l110, l114, l122, l127, l200, l255, l300, l319, l320, l340, l441, l456, l580, l600, l800, l886, l1206, l1526, J_add, J_sub, J_mul, J_neg, J_lt, J_le, J_eq, jT, jF, iT, iF, eT, eF, aT, aF, ite_true, ite_false, ite_not, bs]
theorem RT.askDrawn (H : RT h o T) (d0 : 0 ≤ d) (d1 : d < T 0) (w0 : -2147483648 ≤ w) (w1 : w < 2147483648) : j_X12_drawn_58 o (J d) (J w) h = some (J (dqV T d w), h) := by
  obtain ⟨hv, hl, hn⟩ := H.2.1.last d0 d1
  have n0 := H.2.1.n0
  have e1 := H.versions d0 (show d < 4 by omega)
  have e2 := H.longOf (d := d) (v := T (1 + d) - 1) (by omega) (by omega)
  have e3 := H.tokens d0 (show d < 4 by omega)
  unfold dqV
  by_cases c3 : w < 10
  · by_cases c0 : w = 0
    · rw [if_pos c0]
      simp (disch := omega) only [j_X12_drawn_58, j_X12_drawn_154, rc_ok H.tag, e1, lm8, lm2, lm1, l0, l1, l2, l3, l4, l5, l6, l7, l8, l9, l10, l11, l12, l13, l14, l15, l16, l17, l18, l19, l20, l21, l22, l23, l24, l25, l27, l31, l32, l40, l46, l48, l50, l57, l59, l63, l86, l96, l97, l100, l110, l114, l122, l127, l200, l255, l300, l319, l320, l340, l441, l456, l580, l600, l800, l886, l1206, l1526, J_add, J_sub, J_mul, J_neg, J_lt, J_le, J_eq, jT, jF, iT, iF, eT, eF, aT, aF, ite_true, ite_false, ite_not, bs]
      rw [show T (1 + d) - 1 + 1 = T (1 + d) by omega]
    · rw [if_neg c0]
      by_cases c1 : w = 1
      · rw [if_pos c1]
        simp (disch := omega) only [j_X12_drawn_58, j_X12_drawn_154, rc_ok H.tag, e1, e2, lm8, lm2, lm1, l0, l1, l2, l3, l4, l5, l6, l7, l8, l9, l10, l11, l12, l13, l14, l15, l16, l17, l18, l19, l20, l21, l22, l23, l24, l25, l27, l31, l32, l40, l46, l48, l50, l57, l59, l63, l86, l96, l97, l100, l110, l114, l122, l127, l200, l255, l300, l319, l320, l340, l441, l456, l580, l600, l800, l886, l1206, l1526, J_add, J_sub, J_mul, J_neg, J_lt, J_le, J_eq, jT, jF, iT, iF, eT, eF, aT, aF, ite_true, ite_false, ite_not, bs]
      · rw [if_neg c1]
        by_cases c2 : w = 2
        · rw [if_pos c2]
          simp (disch := omega) only [j_X12_drawn_58, j_X12_drawn_154, rc_ok H.tag, e1, e3, lm8, lm2, lm1, l0, l1, l2, l3, l4, l5, l6, l7, l8, l9, l10, l11, l12, l13, l14, l15, l16, l17, l18, l19, l20, l21, l22, l23, l24, l25, l27, l31, l32, l40, l46, l48, l50, l57, l59, l63, l86, l96, l97, l100, l110, l114, l122, l127, l200, l255, l300, l319, l320, l340, l441, l456, l580, l600, l800, l886, l1206, l1526, J_add, J_sub, J_mul, J_neg, J_lt, J_le, J_eq, jT, jF, iT, iF, eT, eF, aT, aF, ite_true, ite_false, ite_not, bs]
        · rw [if_neg c2, if_pos c3]
          simp (disch := omega) only [j_X12_drawn_58, j_X12_drawn_154, rc_ok H.tag, e1, lm8, lm2, lm1, l0, l1, l2, l3, l4, l5, l6, l7, l8, l9, l10, l11, l12, l13, l14, l15, l16, l17, l18, l19, l20, l21, l22, l23, l24, l25, l27, l31, l32, l40, l46, l48, l50, l57, l59, l63, l86, l96, l97, l100, l110, l114, l122, l127, l200, l255, l300, l319, l320, l340, l441, l456, l580, l600, l800, l886, l1206, l1526, J_add, J_sub, J_mul, J_neg, J_lt, J_le, J_eq, jT, jF, iT, iF, eT, eF, aT, aF, ite_true, ite_false, ite_not, bs]
  · rw [if_neg (by omega), if_neg (by omega), if_neg (by omega), if_neg c3]
    by_cases c5 : w - 10 < lnT T d (T (1 + d) - 1)
    · rw [if_pos c5]
      have e4 := H.wordAt (q := w - 10) ⟨hv, by omega, c5⟩
      simp (disch := omega) only [j_X12_drawn_58, j_X12_drawn_108, rc_ok H.tag, e1, e2, e4, lm8, lm2, lm1, l0, l1, l2, l3, l4, l5, l6, l7, l8, l9, l10, l11, l12, l13, l14, l15, l16, l17, l18, l19, l20, l21, l22, l23, l24, l25, l27, l31, l32, l40, l46, l48, l50, l57, l59, l63, l86, l96, l97, l100, l110, l114, l122, l127, l200, l255, l300, l319, l320, l340, l441, l456, l580, l600, l800, l886, l1206, l1526, J_add, J_sub, J_mul, J_neg, J_lt, J_le, J_eq, jT, jF, iT, iF, eT, eF, aT, aF, ite_true, ite_false, ite_not, bs]
    · rw [if_neg c5]
      simp (disch := omega) only [j_X12_drawn_58, j_X12_drawn_108, rc_ok H.tag, e1, e2, lm8, lm2, lm1, l0, l1, l2, l3, l4, l5, l6, l7, l8, l9, l10, l11, l12, l13, l14, l15, l16, l17, l18, l19, l20, l21, l22, l23, l24, l25, l27, l31, l32, l40, l46, l48, l50, l57, l59, l63, l86, l96, l97, l100, l110, l114, l122, l127, l200, l255, l300, l319, l320, l340, l441, l456, l580, l600, l800, l886, l1206, l1526, J_add, J_sub, J_mul, J_neg, J_lt, J_le, J_eq, jT, jF, iT, iF, eT, eF, aT, aF, ite_true, ite_false, ite_not, bs]
/-- the class goes on from an archive -/
theorem DRy.goOn (TD : TDr (top h) y) (C : CA h o T) (D : DA h o T) (W : CW h o T) (dj : o + 9 < y) (h5 : T 5 ≤ 279) (t0 : 1 ≤ T 0) (n0 : 0 ≤ n) (n1 : n ≤ 40) (s0 : -2147483648 ≤ s) (s1 : s < 2147483648) : ∃ g, m_X1_goOn y o (J s) (J n) h = some (y + 1, g) ∧ FR (Dw y) h g ∧ CA g (y + 1) (dgNT dt T s n.toNat) := by
  have tg : hTag h y = 2 := TD.1
  have r0 : gfR h y 2 0 = some (y + 1) := gfR_ok TD.1 TD.2.1.1
  have ta := TD.2.1.2
  obtain ⟨g1, e1, I1, z1⟩ := X0_copyFrom_ok (h := h) (c := o) (d := y + 1) C.1 ta (by omega)
  have F1 : FR (Dw y) h g1 := I1.1.mono (fun b k q => by unfold Dw; omega)
  obtain ⟨C1, -, -⟩ := CA.copied I1 z1 ta C D W
  have tg1 : hTag g1 y = 2 := by rw [F1.tag]; exact tg
  have p2 : pfI g1 y 2 2 (J s) = some (wE g1 y 2 s) := pfI_ok (k := 2) tg1
  have F2 : FR (fun b k => b = y ∧ k = 2) g1 (wE g1 y 2 s) := FR.wE (A := fun b k => b = y ∧ k = 2) ⟨rfl, rfl⟩
  have e2 : hE (wE g1 y 2 s) y 2 = s := by rw [hE_wE (by omega) (by omega) s0 s1, if_pos ⟨rfl, rfl⟩]
  generalize wE g1 y 2 s = g2 at *
  have D2 : DRy g2 y T s := by
    refine ⟨by rw [F2.1, F1.1]; exact TD, ?_, e2⟩
    refine C1.frame F2 ?_ ?_ (fun k => ?_) (fun k => ?_) (fun k => ?_) (fun k => ?_) (fun k => ?_) (fun k => ?_) <;> omega
  have ok := dgN_ok (dt := dt) (s := s) C.wf h5 t0
  obtain ⟨st, ⟨g, rfl, F, z⟩, el⟩ := loop_ex (body := fun (k : Int32 × Hp → Option (Nat × Hp)) (st : Int32 × Hp) => b_X1_goOn_16 y (J n) (fun hz3 => j_X1_goOn_63 y hz3) (fun v4q hq => k (v4q, hq)) st.1 st.2) (s := (J 0, g2)) (fun i st => ∃ g, st = (J i, g) ∧ FR (Dw y) g2 g ∧ DRy g y (dgNT dt T s i.toNat) (dgNZ dt T s i.toNat)) (fun st => j_X1_goOn_63 y st.2) n n0 (by omega) ⟨g2, rfl, FR.refl _ _, D2⟩ (by
    rintro k i st i0 i1 ⟨g, rfl, F, z⟩
    obtain ⟨a1, a2, a3⟩ := ok i.toNat (by omega)
    obtain ⟨g', e, F', z'⟩ := z.turn (dt := dt) (by omega) (by omega) (K0 := j_X1_goOn_63 y g) (K := fun x7 => k (J (i + 1), x7))
    refine ⟨(J (i + 1), g'), ⟨g', rfl, F.trans F', ?_⟩, ?_⟩
    · rw [show (i + 1).toNat = i.toNat + 1 by omega, dgNT_s, dgNZ_s]
      exact z'
    · show b_X1_goOn_16 y (J n) (fun hz3 => j_X1_goOn_63 y hz3) (fun v4q hq => k (v4q, hq)) (J i) g = _
      unfold b_X1_goOn_16
      rw [if_neg (show ¬ J n ≤ J i by rw [J_le (by omega) (by omega) (by omega) (by omega)]; omega), show J i + (1 : Int32) = J (i + 1) by rw [show (1 : Int32) = J 1 from rfl, J_add]]
      exact e) (by
    rintro k st ⟨g, rfl, -⟩
    show b_X1_goOn_16 y (J n) (fun hz3 => j_X1_goOn_63 y hz3) (fun v4q hq => k (v4q, hq)) (J n) g = _
    unfold b_X1_goOn_16
    rw [if_pos (show J n ≤ J n by rw [J_le (by omega) (by omega) (by omega) (by omega)]; omega)])
  refine ⟨g, ?_, (F1.trans (F2.mono (fun b k q => by unfold Dw; omega))).trans F, z.2.1⟩
  unfold m_X1_goOn
  rw [r0, bs, rc_ok ta.1, e1, bs, p2, bs]
  refine Eq.trans el ?_
  unfold j_X1_goOn_63
  rw [z.r0, bs]
/-- the reference goes on -/
theorem RD.goOn (D : RD h o T s dt) (h5 : T 5 ≤ 279) (t0 : 1 ≤ T 0) (n0 : 0 ≤ n) (n1 : n ≤ 40) (K : Hp → Option (Int32 × Hp)) {v4 v5 : Int32} : ∃ g, l_X12_drawn_42 o (J n) v4 v5 K (J 0) h = K g ∧ FR (ADr o) h g ∧ RT g o (dgNT dt T s n.toNat) := by
  have ok := dgN_ok (dt := dt) (s := s) D.1.2.1 h5 t0
  obtain ⟨st, ⟨g, rfl, F, z⟩, el⟩ := loop_ex (body := fun (k : Int32 × Hp → Option (Int32 × Hp)) (st : Int32 × Hp) => b_X12_drawn_42 o (J n) v4 v5 K (fun v6q hq => k (v6q, hq)) st.1 st.2) (s := (J 0, h)) (fun i st => ∃ g, st = (J i, g) ∧ FR (ADr o) h g ∧ RD g o (dgNT dt T s i.toNat) (dgNZ dt T s i.toNat) dt) (fun st => K st.2) n n0 (by omega) ⟨h, rfl, FR.refl _ _, D⟩ (by
    rintro k i st i0 i1 ⟨g, rfl, F, z⟩
    obtain ⟨a1, a2, a3⟩ := ok i.toNat (by omega)
    obtain ⟨g', e, F', z'⟩ := z.turn (by omega) (by omega)
    refine ⟨(J (i + 1), g'), ⟨g', rfl, F.trans F', ?_⟩, ?_⟩
    · rw [show (i + 1).toNat = i.toNat + 1 by omega, dgNT_s, dgNZ_s]
      exact z'
    · show b_X12_drawn_42 o (J n) v4 v5 K (fun v6q hq => k (v6q, hq)) (J i) g = _
      unfold b_X12_drawn_42
      rw [if_neg (show ¬ J n ≤ J i by rw [J_le (by omega) (by omega) (by omega) (by omega)]; omega), rc_ok z.tag, e, bs, show J i + (1 : Int32) = J (i + 1) by rw [show (1 : Int32) = J 1 from rfl, J_add]]) (by
    rintro k st ⟨g, rfl, -⟩
    show b_X12_drawn_42 o (J n) v4 v5 K (fun v6q hq => k (v6q, hq)) (J n) g = _
    unfold b_X12_drawn_42
    rw [if_pos (show J n ≤ J n by rw [J_le (by omega) (by omega) (by omega) (by omega)]; omega)])
  exact ⟨g, el, F, z.1⟩
/-- what drawn answers -/
def drV (S : Sx) (dt a s n d w : Int) : Int := if (0 ≤ n ∧ n ≤ 40) ∧ ndB S 0 a = true ∧ 0 ≤ d ∧ d < sT S a 0 then dqV (dgNT dt (sT S a) s n.toNat) d w else -1
theorem SBo.drawnC (M : SBo h x o S) (a0 : -2147483648 ≤ a) (a1 : a < 2147483648) (s0 : -2147483648 ≤ s) (s1 : s < 2147483648) (n0 : -2147483648 ≤ n) (n1 : n < 2147483648) (d0 : -2147483648 ≤ d) (d1 : d < 2147483648) (w0 : -2147483648 ≤ w) (w1 : w < 2147483648) : ∃ g, m_X11_drawn x (J a) (J s) (J n) (J d) (J w) h = some (J (drV S dt a s n d w), g) ∧ FR (Dw (x + 70)) h g := by
  unfold m_X11_drawn
  rw [M.aN a0 a1]
  unfold drV
  by_cases c : ndB S 0 a = true
  · obtain ⟨C1, C2, C3⟩ := M.arch c
    obtain ⟨w1_, w2_, w3_⟩ := M.wfA c
    have tn0 := w1_.n0
    have aT2 := M.at_ c
    rw [if_pos c, rc_ok C1.tag]
    by_cases cd : 0 ≤ d ∧ d < sT S a 0
    · rw [C1.hasDocT cd.1 cd.2, bs, if_neg (show ¬ J 1 = 0 by decide)]
      by_cases cn : n < 0
      · rw [if_pos (show J n < 0 by rw [show (0 : Int32) = J 0 from rfl, J_lt (by omega) (by omega) (by omega) (by omega)]; exact cn), if_neg (fun q => by omega)]
        exact ⟨h, rfl, FR.refl _ _⟩
      · rw [if_neg (show ¬ J n < 0 by rw [show (0 : Int32) = J 0 from rfl, J_lt (by omega) (by omega) (by omega) (by omega)]; exact cn)]
        by_cases cm : n ≤ 40
        · rw [if_pos (show J n ≤ (40 : Int32) by rw [show (40 : Int32) = J 40 from rfl, J_le (by omega) (by omega) (by omega) (by omega)]; exact cm), if_pos ⟨⟨by omega, cm⟩, c, cd.1, cd.2⟩]
          have r5 : gfR h x 11 5 = some (x + 70) := gfR_ok M.1.1 M.1.2.2.2.2.2.2.1
          obtain ⟨g, e, F, C⟩ := DRy.goOn (dt := dt) (s := s) (n := n) M.1.2.2.2.2.2.2.2 C1 C2 C3 (by omega) w3_ (by omega) (by omega) cm s0 s1
          have ok := dgN_ok (dt := dt) (s := s) w1_ w3_ (by omega) n.toNat (by omega)
          have tg : hTag h (x + 70) = 2 := M.1.2.2.2.2.2.2.2.1
          refine ⟨g, ?_, F⟩
          rw [r5, bs, rc_ok tg, e, bs]
          exact C.askDrawn cd.1 (by rw [ok.2.1]; exact cd.2) w0 w1
        · rw [if_neg (show ¬ J n ≤ (40 : Int32) by rw [show (40 : Int32) = J 40 from rfl, J_le (by omega) (by omega) (by omega) (by omega)]; exact cm), if_neg (fun q => cm q.1.2)]
          exact ⟨h, rfl, FR.refl _ _⟩
    · rw [C1.hasDocF (by omega) d0 d1, bs, if_pos (show J 0 = 0 by decide), if_neg (fun q => cd q.2.2)]
      exact ⟨h, rfl, FR.refl _ _⟩
  · rw [if_neg c, if_neg (fun q => c q.2.1)]
    exact ⟨h, rfl, FR.refl _ _⟩
theorem SBo.drawnR (M : SBo h x o S) (a0 : -2147483648 ≤ a) (a1 : a < 2147483648) (s0 : -2147483648 ≤ s) (s1 : s < 2147483648) (n0 : -2147483648 ≤ n) (n1 : n < 2147483648) (d0 : -2147483648 ≤ d) (d1 : d < 2147483648) (w0 : -2147483648 ≤ w) (w1 : w < 2147483648) (hdt : hE h o 23 = dt) : ∃ g, m_X12_drawn o (J a) (J s) (J n) (J d) (J w) h = some (J (drV S dt a s n d w), g) ∧ FR (Asc x o) h g := by
  obtain ⟨p0, F0, M0⟩ := M.code
  have e23 : hE (wE h o 0 0) o 23 = dt := by
    rw [hE_wE (by omega) (by omega) (by omega) (by omega), if_neg (by omega), hdt]
  have F0' : FR (Asc x o) h (wE h o 0 0) := F0.mono (fun b k q => by unfold Asc; omega)
  generalize wE h o 0 0 = g0 at *
  unfold m_X12_drawn
  rw [p0, bs]
  unfold drV
  by_cases cn : 0 ≤ n ∧ n ≤ 40
  · have ei : m_X12_in (J n) (0 : Int32) (40 : Int32) g0 = some (J 1) := X12_in_T (b := 0) (c := 40) cn (by omega) (by omega)
    obtain ⟨g1, e1, F1, R1⟩ := M0.2.2.1.hand M0.2.2.2.1 a0 a1
    have F1' : FR (Asc x o) g0 g1 := F1.mono (fun b k q => by unfold AHd at q; unfold Asc; omega)
    have T1 : TR (top g1) o := by rw [F1.1]; exact M0.2.2.1.1
    rw [ei, bs, if_neg (show ¬ J 1 = 0 by decide), rc_ok M0.2.2.1.1.tag, e1, bs]
    by_cases c : ndB S 0 a = true
    · have R := R1 c
      obtain ⟨w1_, w2_, w3_⟩ := M.wfA c
      have tn0 := w1_.n0
      rw [if_neg (show ¬ J (b01 (ndB S 0 a)) = 0 by rw [c]; decide)]
      show ∃ g, ((rc g1 o 12 (m_X12_isDoc o (J d) g1)).bind fun x3 => if ¬ x3 = 0 then ((pfI g1 o 12 35 (J s)).bind fun hh2 => l_X12_drawn_42 o (J n) (J d) (J w) (fun hz4 => j_X12_drawn_58 o (J d) (J w) hz4) (0 : Int32) hh2) else some ((-1 : Int32), g1)) = _ ∧ _
      rw [rc_ok T1.tag]
      by_cases cd : 0 ≤ d ∧ d < sT S a 0
      · rw [R.isDocT cd.1 cd.2, bs, if_pos (show ¬ J 1 = 0 by decide), if_pos ⟨cn, c, cd.1, cd.2⟩]
        have p35 : pfI g1 o 12 35 (J s) = some (wE g1 o 35 s) := pfI_ok (k := 35) T1.tag
        have F2 : FR (fun b k => b = o ∧ k = 35) g1 (wE g1 o 35 s) := FR.wE (A := fun b k => b = o ∧ k = 35) ⟨rfl, rfl⟩
        have e2 : hE (wE g1 o 35 s) o 35 = s := by rw [hE_wE (by omega) (by omega) s0 s1, if_pos ⟨rfl, rfl⟩]
        generalize wE g1 o 35 s = g2 at *
        have D2 : RD g2 o (sT S a) s dt := ⟨⟨by rw [F2.1]; exact T1, w1_, fun k k0 k1 => by rw [F2.e (by omega), R.2.2.2 k k0 k1]⟩, e2, by rw [F2.e (by omega), F1.e (fun q => by unfold AHd at q; omega), e23]⟩
        obtain ⟨g, e, F, Z⟩ := D2.goOn (n := n) w3_ (by omega) cn.1 cn.2 (fun hz4 => j_X12_drawn_58 o (J d) (J w) hz4) (v4 := J d) (v5 := J w)
        have ok := dgN_ok (dt := dt) (s := s) w1_ w3_ (by omega) n.toNat (by omega)
        refine ⟨g, ?_, ((F0'.trans F1').trans (F2.mono (fun b k q => by unfold Asc; omega))).trans (F.mono (fun b k q => by unfold ADr at q; unfold Asc; omega))⟩
        rw [p35, bs]
        refine Eq.trans e ?_
        exact Z.askDrawn cd.1 (by rw [ok.2.1]; exact cd.2) w0 w1
      · rw [R.isDocF (by omega) d0 d1, bs, if_neg (show ¬ ¬ J 0 = 0 by decide), if_neg (fun q => cd q.2.2)]
        exact ⟨g1, rfl, F0'.trans F1'⟩
    · have c' : ndB S 0 a = false := by simpa using c
      rw [if_pos (show J (b01 (ndB S 0 a)) = 0 by rw [c']; decide)]
      rw [if_neg (show ¬ ((0 ≤ n ∧ n ≤ 40) ∧ ndB S 0 a = true ∧ 0 ≤ d ∧ d < sT S a 0) from fun q => c q.2.1)]
      exact ⟨g1, rfl, F0'.trans F1'⟩
  · have ei : m_X12_in (J n) (0 : Int32) (40 : Int32) g0 = some (J 0) := X12_in_F (b := 0) (c := 40) (by omega) (by omega) (by omega) ⟨n0, n1⟩
    rw [ei, bs, if_pos (show J 0 = 0 by decide), if_neg (fun q => cn q.1)]
    exact ⟨g0, rfl, F0'⟩
theorem SBo.drawn (M : SBo h x o S) (a0 : -2147483648 ≤ a) (a1 : a < 2147483648) (s0 : -2147483648 ≤ s) (s1 : s < 2147483648) (n0 : -2147483648 ≤ n) (n1 : n < 2147483648) (d0 : -2147483648 ≤ d) (d1 : d < 2147483648) (w0 : -2147483648 ≤ w) (w1 : w < 2147483648) : Qh h x o (m_X11_drawn x (J a) (J s) (J n) (J d) (J w) h) (m_X12_drawn o (J a) (J s) (J n) (J d) (J w)) := by
  obtain ⟨h1, e1, F1⟩ := M.drawnC (dt := hE h o 23) a0 a1 s0 s1 n0 n1 d0 d1 w0 w1
  have xo : x + 81 < o := M.2.2.2.2.1
  have F1' : FR (Asc x o) h h1 := F1.mono (fun b k q => by unfold Dw at q; unfold Asc; omega)
  obtain ⟨h2, e2, F2⟩ := (M.frame F1').drawnR (dt := hE h o 23) a0 a1 s0 s1 n0 n1 d0 d1 w0 w1 (F1.e (fun q => by unfold Dw at q; omega))
  exact ⟨_, h1, h2, e1, e2, F1'.trans F2, F1'⟩
end DRN
