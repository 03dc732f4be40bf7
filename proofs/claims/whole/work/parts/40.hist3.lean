/-! PURE PART: postings, both sides -/
theorem bt_neg (m : Nat) : bt m (-1) = false := rfl
section H3
variable {h : Hp} {o : Nat} {T : Int → Int}
theorem X12_rowsIn_ok {m : Nat} (hm : m < 1024) : m_X12_rowsIn (J m) h = some (J (roN m)) := by
  unfold m_X12_rowsIn l_X12_rowsIn_4
  refine loop_run (fun i => (J (sumZ i (fun v => b01 (bt m v && !bt m (v - 1)))), J i)) 10 (lt_FUEL (by omega)) (fun k i hi => ?_) (fun k => ?_)
  · cases hb : bt m (i : Int)
    · simp (disch := first | omega | exact hb) only [b_X12_rowsIn_4, j_X12_rowsIn_38, X12_has_F hm, lm8, lm2, lm1, l0, l1, l2, l3, l4, l5, l6, l7, l8, l9, l10, l11, l12, l13, l14, l15, l16, l17, l18, l19, l20, l21, l22, l23, l24, l25, l27, l31, l32, l40, l46, l48, l50, l57, l59, l63, l86, l96, l97, l100, l110, l114, l122, l127, l200, l255, l300, l319, l320, l340, l441, l456, l580, l600, l800, l886, l1206, l1526, J_add, J_sub, J_mul, J_neg, J_lt, J_le, J_eq, jT, jF, iT, iF, eT, eF, aT, aF, ite_true, ite_false, ite_not, bS, sumZ_succ, Int.natCast_add, Int.cast_ofNat_Int]
      simp [hb, b01]
    · by_cases h0 : i = 0
      · subst h0
        have e : bt m ((0 : Nat) - 1 : Int) = false := bt_neg m
        simp (disch := first | omega | exact hb) only [b_X12_rowsIn_4, j_X12_rowsIn_38, X12_has_T hm, lm8, lm2, lm1, l0, l1, l2, l3, l4, l5, l6, l7, l8, l9, l10, l11, l12, l13, l14, l15, l16, l17, l18, l19, l20, l21, l22, l23, l24, l25, l27, l31, l32, l40, l46, l48, l50, l57, l59, l63, l86, l96, l97, l100, l110, l114, l122, l127, l200, l255, l300, l319, l320, l340, l441, l456, l580, l600, l800, l886, l1206, l1526, J_add, J_sub, J_mul, J_neg, J_lt, J_le, J_eq, jT, jF, iT, iF, eT, eF, aT, aF, ite_true, ite_false, ite_not, bS, sumZ_succ, Int.natCast_add, Int.cast_ofNat_Int]
        rw [show bt m 0 = true from hb, show bt m (0 - 1) = false from e]
        rfl
      · cases hc : bt m ((i : Int) - 1)
        · simp (disch := first | omega | exact hb | exact hc) only [b_X12_rowsIn_4, j_X12_rowsIn_38, X12_has_T hm, X12_has_F hm, lm8, lm2, lm1, l0, l1, l2, l3, l4, l5, l6, l7, l8, l9, l10, l11, l12, l13, l14, l15, l16, l17, l18, l19, l20, l21, l22, l23, l24, l25, l27, l31, l32, l40, l46, l48, l50, l57, l59, l63, l86, l96, l97, l100, l110, l114, l122, l127, l200, l255, l300, l319, l320, l340, l441, l456, l580, l600, l800, l886, l1206, l1526, J_add, J_sub, J_mul, J_neg, J_lt, J_le, J_eq, jT, jF, iT, iF, eT, eF, aT, aF, ite_true, ite_false, ite_not, bS, sumZ_succ, Int.natCast_add, Int.cast_ofNat_Int]
          simp [hb, hc, b01]
        · simp (disch := first | omega | exact hb | exact hc) only [b_X12_rowsIn_4, j_X12_rowsIn_38, X12_has_T hm, lm8, lm2, lm1, l0, l1, l2, l3, l4, l5, l6, l7, l8, l9, l10, l11, l12, l13, l14, l15, l16, l17, l18, l19, l20, l21, l22, l23, l24, l25, l27, l31, l32, l40, l46, l48, l50, l57, l59, l63, l86, l96, l97, l100, l110, l114, l122, l127, l200, l255, l300, l319, l320, l340, l441, l456, l580, l600, l800, l886, l1206, l1526, J_add, J_sub, J_mul, J_neg, J_lt, J_le, J_eq, jT, jF, iT, iF, eT, eF, aT, aF, ite_true, ite_false, ite_not, bS, sumZ_succ, Int.natCast_add, Int.cast_ofNat_Int]
          simp [hb, hc, b01]
  · simp (disch := omega) only [b_X12_rowsIn_4, lm8, lm2, lm1, l0, l1, l2, l3, l4, l5, l6, l7, l8, l9, l10, l11, l12, l13, l14, l15, l16, l17, l18, l19, l20, l21, l22, l23, l24, l25, l27, l31, l32, l40, l46, l48, l50, l57, l59, l63, l86, l96, l97, l100, l110, l114, l122, l127, l200, l255, l300, l319, l320, l340, l441, l456, l580, l600, l800, l886, l1206, l1526, J_add, J_sub, J_mul, J_neg, J_lt, J_le, J_eq, jT, jF, iT, iF, eT, eF, aT, aF, ite_true, ite_false, ite_not, bS]
    rfl
theorem CA.postings (H : CA h o T) {x : Nat} : m_X2_postings x o h = some (J (sumZ (T 5) (fun t => roN (stT T t)))) := by
  have h5 := H.wf.n5
  unfold m_X2_postings l_X2_postings_4
  refine loop_run (fun i => (J (sumZ i (fun t => roN (stT T t))), J i)) (T 5).toNat (lt_FUEL (by omega)) (fun k i hi => ?_) (fun k => ?_)
  · have hm := stT_lt H.wf (t := i) (by omega) (by omega)
    simp (disch := omega) only [b_X2_postings_4, rc_ok H.tag, H.f1, H.stayOf, X5_runs_ok hm, lm8, lm2, lm1, l0, l1, l2, l3, l4, l5, l6, l7, l8, l9, l10, l11, l12, l13, l14, l15, l16, l17, l18, l19, l20, l21, l22, l23, l24, l25, l27, l31, l32, l40, l46, l48, l50, l57, l59, l63, l86, l96, l97, l100, l110, l114, l122, l127, l200, l255, l300, l319, l320, l340, l441, l456, l580, l600, l800, l886, l1206, l1526, J_add, J_sub, J_mul, J_neg, J_lt, J_le, J_eq, jT, jF, iT, iF, eT, eF, aT, aF, ite_true, ite_false, ite_not, bS, sumZ_succ, Int.natCast_add, Int.cast_ofNat_Int]
  · simp (disch := omega) only [b_X2_postings_4, H.f1, lm8, lm2, lm1, l0, l1, l2, l3, l4, l5, l6, l7, l8, l9, l10, l11, l12, l13, l14, l15, l16, l17, l18, l19, l20, l21, l22, l23, l24, l25, l27, l31, l32, l40, l46, l48, l50, l57, l59, l63, l86, l96, l97, l100, l110, l114, l122, l127, l200, l255, l300, l319, l320, l340, l441, l456, l580, l600, l800, l886, l1206, l1526, J_add, J_sub, J_mul, J_neg, J_lt, J_le, J_eq, jT, jF, iT, iF, eT, eF, aT, aF, ite_true, ite_false, ite_not, bS, Int.toNat_of_nonneg]
end H3
