/-! PURE PART: a line's kind, the class -/
def soK (k : Int) : Int := if k < 8 then 1 else if k < 13 then 0 else 2
/-- the kind of a line of a sort that begins with the token from f to t, -1 where there is none -/
def kiF (B : Int → Int) (c f t s : Int) : Int := fiZ 15 (fun k => decide (soK k = s) && (decide (c = 1) && kwB B f t k))
section KI
variable {h : Hp} {a : Nat} {B : Int → Int} {L f t : Int}
theorem X4_sortOf_ok {k : Int} (k0 : 0 ≤ k) (k1 : k < 15) : m_X4_sortOf (J k) h = some (J (soK k)) := by
  unfold soK
  by_cases c1 : k < 8
  · rw [if_pos c1]
    simp (disch := omega) only [m_X4_sortOf, lm8, lm2, lm1, l0, l1, l2, l3, l4, l5, l6, l7, l8, l9, l10, l11, l12, l13, l14, l15, l16, l17, l18, l19, l20, l21, l22, l23, l24, l25, l27, l31, l32, l40, l46, l48, l50, l57, l59, l63, l86, l96, l97, l100, l110, l114, l122, l127, l200, l255, l300, l319, l320, l340, l441, l456, l580, l600, l800, l886, l1206, l1526, J_add, J_sub, J_mul, J_neg, J_lt, J_le, J_eq, jT, jF, iT, iF, eT, eF, aT, aF, ite_true, ite_false, ite_not, bs]
  · by_cases c2 : k < 13
    · rw [if_neg c1, if_pos c2]
      simp (disch := omega) only [m_X4_sortOf, j_X4_sortOf_19, lm8, lm2, lm1, l0, l1, l2, l3, l4, l5, l6, l7, l8, l9, l10, l11, l12, l13, l14, l15, l16, l17, l18, l19, l20, l21, l22, l23, l24, l25, l27, l31, l32, l40, l46, l48, l50, l57, l59, l63, l86, l96, l97, l100, l110, l114, l122, l127, l200, l255, l300, l319, l320, l340, l441, l456, l580, l600, l800, l886, l1206, l1526, J_add, J_sub, J_mul, J_neg, J_lt, J_le, J_eq, jT, jF, iT, iF, eT, eF, aT, aF, ite_true, ite_false, ite_not, bs]
    · rw [if_neg c1, if_neg c2]
      simp (disch := omega) only [m_X4_sortOf, j_X4_sortOf_19, lm8, lm2, lm1, l0, l1, l2, l3, l4, l5, l6, l7, l8, l9, l10, l11, l12, l13, l14, l15, l16, l17, l18, l19, l20, l21, l22, l23, l24, l25, l27, l31, l32, l40, l46, l48, l50, l57, l59, l63, l86, l96, l97, l100, l110, l114, l122, l127, l200, l255, l300, l319, l320, l340, l441, l456, l580, l600, l800, l886, l1206, l1526, J_add, J_sub, J_mul, J_neg, J_lt, J_le, J_eq, jT, jF, iT, iF, eT, eF, aT, aF, ite_true, ite_false, ite_not, bs]
theorem X4_keywordOf_ok {k : Int} (k0 : 0 ≤ k) (k1 : k < 15) : m_X4_keywordOf (J k) h = some (tN k.toNat) := by
  have : k = 0 ∨ k = 1 ∨ k = 2 ∨ k = 3 ∨ k = 4 ∨ k = 5 ∨ k = 6 ∨ k = 7 ∨ k = 8 ∨ k = 9 ∨ k = 10 ∨ k = 11 ∨ k = 12 ∨ k = 13 ∨ k = 14 := by omega
  rcases this with q | q | q | q | q | q | q | q | q | q | q | q | q | q | q <;> · rw [q]; rfl
theorem CT.kindOf (H : CT h a B L) {c s : Int} (h2 : hE h a 2 = c) (h3 : hE h a 3 = f) (h4 : hE h a 4 = t) (c0 : 0 ≤ c ∧ c ≤ 4) (f0 : 0 ≤ f) (t1 : t ≤ 600) (n0 : f ≤ t) (s0 : 0 ≤ s) (s1 : s ≤ 2) : m_X4_kindOf a (J s) h = some (J (kiF B c f t s)) := by
  unfold m_X4_kindOf l_X4_kindOf_2 kiF
  refine loop_find (fun i => J i) 15 (fun k => decide (soK k = s) && (decide (c = 1) && kwB B f t k)) (fun i => some (J i)) (by omega) (by omega) rfl (fun k_ i hi hi2 hp => ?_) (fun k_ i hi hi2 hp => ?_) (fun k_ => ?_)
  · have es := X4_sortOf_ok (h := h) hi hi2
    have ek := X4_keywordOf_ok (h := h) hi hi2
    have et := H.tokenIs h2 h3 h4 c0 f0 t1 n0 hi hi2
    have hs : 0 ≤ soK i ∧ soK i ≤ 2 := by
      unfold soK
      split
      · omega
      · split <;> omega
    show b_X4_kindOf_2 a (J s) h (fun v2q => k_ v2q) (J i) = _
    by_cases c1 : soK i = s
    · have hp' : (decide (c = 1) && kwB B f t i) = false := by simpa [c1] using hp
      rw [hp'] at et
      simp (disch := omega) only [b_X4_kindOf_2, j_X4_kindOf_29, es, c1, ek, rc_ok H.tag, et, lm8, lm2, lm1, l0, l1, l2, l3, l4, l5, l6, l7, l8, l9, l10, l11, l12, l13, l14, l15, l16, l17, l18, l19, l20, l21, l22, l23, l24, l25, l27, l31, l32, l40, l46, l48, l50, l57, l59, l63, l86, l96, l97, l100, l110, l114, l122, l127, l200, l255, l300, l319, l320, l340, l441, l456, l580, l600, l800, l886, l1206, l1526, J_add, J_sub, J_mul, J_neg, J_lt, J_le, J_eq, jT, jF, iT, iF, eT, eF, aT, aF, ite_true, ite_false, ite_not, bs, bI, cond_false]
    · have c2 : soK i < s ∨ s < soK i := by omega
      simp (disch := first | omega | exact c2) only [b_X4_kindOf_2, j_X4_kindOf_29, es, lm8, lm2, lm1, l0, l1, l2, l3, l4, l5, l6, l7, l8, l9, l10, l11, l12, l13, l14, l15, l16, l17, l18, l19, l20, l21, l22, l23, l24, l25, l27, l31, l32, l40, l46, l48, l50, l57, l59, l63, l86, l96, l97, l100, l110, l114, l122, l127, l200, l255, l300, l319, l320, l340, l441, l456, l580, l600, l800, l886, l1206, l1526, J_add, J_sub, J_mul, J_neg, J_lt, J_le, J_eq, jT, jF, iT, iF, eT, eF, aT, aF, ite_true, ite_false, ite_not, bs]
  · have es := X4_sortOf_ok (h := h) hi hi2
    have ek := X4_keywordOf_ok (h := h) hi hi2
    have et := H.tokenIs h2 h3 h4 c0 f0 t1 n0 hi hi2
    have hp2 := (Bool.and_eq_true _ _).mp hp
    have c1 : soK i = s := of_decide_eq_true hp2.1
    rw [hp2.2] at et
    show b_X4_kindOf_2 a (J s) h (fun v2q => k_ v2q) (J i) = _
    simp (disch := omega) only [b_X4_kindOf_2, es, c1, ek, rc_ok H.tag, et, lm8, lm2, lm1, l0, l1, l2, l3, l4, l5, l6, l7, l8, l9, l10, l11, l12, l13, l14, l15, l16, l17, l18, l19, l20, l21, l22, l23, l24, l25, l27, l31, l32, l40, l46, l48, l50, l57, l59, l63, l86, l96, l97, l100, l110, l114, l122, l127, l200, l255, l300, l319, l320, l340, l441, l456, l580, l600, l800, l886, l1206, l1526, J_add, J_sub, J_mul, J_neg, J_lt, J_le, J_eq, jT, jF, iT, iF, eT, eF, aT, aF, ite_true, ite_false, ite_not, bs, bI, cond_true]
  · show b_X4_kindOf_2 a (J s) h (fun v2q => k_ v2q) (J 15) = _
    simp (disch := omega) only [b_X4_kindOf_2, lm8, lm2, lm1, l0, l1, l2, l3, l4, l5, l6, l7, l8, l9, l10, l11, l12, l13, l14, l15, l16, l17, l18, l19, l20, l21, l22, l23, l24, l25, l27, l31, l32, l40, l46, l48, l50, l57, l59, l63, l86, l96, l97, l100, l110, l114, l122, l127, l200, l255, l300, l319, l320, l340, l441, l456, l580, l600, l800, l886, l1206, l1526, J_add, J_sub, J_mul, J_neg, J_lt, J_le, J_eq, jT, jF, iT, iF, eT, eF, aT, aF, ite_true, ite_false, ite_not, bs, lm1]
end KI
