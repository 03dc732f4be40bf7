/-! PURE PART: sets of versions as bits, methods -/
theorem J_or0 (x : Int32) : x ||| J 0 = x := Int32.or_zero
theorem X12_has_T {h : Hp} {m : Nat} {v : Int} (hm : m < 1024) (h0 : 0 ≤ v) (h1 : v < 12) (hb : bt m v = true) : m_X12_has (J m) (J v) h = some (J 1) := by
  have := has_tab m hm v.toNat (by omega)
  rw [Int.toNat_of_nonneg h0] at this
  unfold bt at hb
  rw [Bool.and_eq_true] at hb
  rw [if_pos hb.2] at this
  unfold m_X12_has
  rw [show (ishrF (J m) (J v)) &&& 1 = 1 from this]
  rfl
theorem X12_has_F {h : Hp} {m : Nat} {v : Int} (hm : m < 1024) (h0 : 0 ≤ v) (h1 : v < 12) (hb : bt m v = false) : m_X12_has (J m) (J v) h = some (J 0) := by
  have := has_tab m hm v.toNat (by omega)
  rw [Int.toNat_of_nonneg h0] at this
  unfold bt at hb
  rw [decide_eq_true h0, Bool.true_and] at hb
  rw [if_neg (by rw [hb]; decide)] at this
  unfold m_X12_has
  rw [show (ishrF (J m) (J v)) &&& 1 = 0 from this]
  rfl
theorem X12_has_ok {h : Hp} {m : Nat} {v : Int} (hm : m < 1024) (h0 : 0 ≤ v) (h1 : v < 12) : m_X12_has (J m) (J v) h = some (J (b01 (bt m v))) := by
  cases hb : bt m v
  · exact X12_has_F hm h0 h1 hb
  · exact X12_has_T hm h0 h1 hb
theorem b01_rg (b : Bool) : 0 ≤ b01 b ∧ b01 b ≤ 1 := by cases b <;> decide
theorem X5_bit_ok {h : Hp} {m : Nat} {v : Int} (hm : m < 1024) (h0 : -2147483648 ≤ v) (h1 : v < 2147483648) : m_X5_bit (J m) (J v) h = some (J (b01 (bt m v))) := by
  by_cases hv : v < 0
  · rw [show bt m v = false by unfold bt; rw [decide_eq_false (by omega)]; rfl]
    simp (disch := omega) only [m_X5_bit, j_X5_bit_19, lm8, lm2, lm1, l0, l1, l2, l3, l4, l5, l6, l7, l8, l9, l10, l11, l12, l13, l14, l15, l16, l17, l18, l19, l20, l21, l22, l23, l24, l25, l27, l31, l32, l40, l46, l48, l50, l57, l59, l63, l86, l96, l97, l100, l110, l114, l122, l127, l200, l255, l300, l319, l320, l340, l441, l456, l580, l600, l800, l886, l1206, l1526, J_add, J_sub, J_mul, J_neg, J_lt, J_le, J_eq, jT, jF, iT, iF, eT, eF, aT, aF, ite_true, ite_false, ite_not, bS]
    rfl
  · by_cases hv2 : 32 ≤ v
    · have hb : bt m v = false := by
        unfold bt
        rw [decide_eq_true (by omega), Bool.true_and]
        exact Nat.testBit_lt_two_pow (Nat.lt_of_lt_of_le hm (Nat.le_trans (show 1024 ≤ 2 ^ 32 by decide) (Nat.pow_le_pow_right (by decide) (by omega))))
      rw [hb]
      simp (disch := omega) only [m_X5_bit, j_X5_bit_19, lm8, lm2, lm1, l0, l1, l2, l3, l4, l5, l6, l7, l8, l9, l10, l11, l12, l13, l14, l15, l16, l17, l18, l19, l20, l21, l22, l23, l24, l25, l27, l31, l32, l40, l46, l48, l50, l57, l59, l63, l86, l96, l97, l100, l110, l114, l122, l127, l200, l255, l300, l319, l320, l340, l441, l456, l580, l600, l800, l886, l1206, l1526, J_add, J_sub, J_mul, J_neg, J_lt, J_le, J_eq, jT, jF, iT, iF, eT, eF, aT, aF, ite_true, ite_false, ite_not, bS]
      rfl
    · have := bit_tab m hm v.toNat (by omega)
      rw [Int.toNat_of_nonneg (by omega)] at this
      have e : (iushrF (J m) (J v)) &&& (1 : Int32) = J (b01 (bt m v)) := by
        show (iushrF (J m) (J v)) &&& (1 : Int32) = _
        rw [show (iushrF (J m) (J v)) &&& (1 : Int32) = _ from this]
        unfold bt b01
        rw [decide_eq_true (by omega), Bool.true_and]
        cases m.testBit v.toNat <;> rfl
      unfold m_X5_bit j_X5_bit_19
      rw [e]
      simp (disch := omega) only [lm8, lm2, lm1, l0, l1, l2, l3, l4, l5, l6, l7, l8, l9, l10, l11, l12, l13, l14, l15, l16, l17, l18, l19, l20, l21, l22, l23, l24, l25, l27, l31, l32, l40, l46, l48, l50, l57, l59, l63, l86, l96, l97, l100, l110, l114, l122, l127, l200, l255, l300, l319, l320, l340, l441, l456, l580, l600, l800, l886, l1206, l1526, J_add, J_sub, J_mul, J_neg, J_lt, J_le, J_eq, jT, jF, iT, iF, eT, eF, aT, aF, ite_true, ite_false, ite_not, bS]
theorem X12_ones_ok {h : Hp} {m : Nat} (hm : m < 1024) : m_X12_ones (J m) h = some (J (onN m)) := by
  unfold m_X12_ones l_X12_ones_4
  refine loop_run (fun i => (J (sumZ i (fun v => b01 (bt m v))), J i)) 10 (lt_FUEL (by omega)) (fun k i hi => ?_) (fun k => ?_)
  · cases hb : bt m (i : Int)
    · simp (disch := first | omega | exact hb) only [b_X12_ones_4, j_X12_ones_24, X12_has_F hm, lm8, lm2, lm1, l0, l1, l2, l3, l4, l5, l6, l7, l8, l9, l10, l11, l12, l13, l14, l15, l16, l17, l18, l19, l20, l21, l22, l23, l24, l25, l27, l31, l32, l40, l46, l48, l50, l57, l59, l63, l86, l96, l97, l100, l110, l114, l122, l127, l200, l255, l300, l319, l320, l340, l441, l456, l580, l600, l800, l886, l1206, l1526, J_add, J_sub, J_mul, J_neg, J_lt, J_le, J_eq, jT, jF, iT, iF, eT, eF, aT, aF, ite_true, ite_false, ite_not, bS, sumZ_succ, Int.natCast_add, Int.cast_ofNat_Int]
      simp [hb, b01]
    · simp (disch := first | omega | exact hb) only [b_X12_ones_4, j_X12_ones_24, X12_has_T hm, lm8, lm2, lm1, l0, l1, l2, l3, l4, l5, l6, l7, l8, l9, l10, l11, l12, l13, l14, l15, l16, l17, l18, l19, l20, l21, l22, l23, l24, l25, l27, l31, l32, l40, l46, l48, l50, l57, l59, l63, l86, l96, l97, l100, l110, l114, l122, l127, l200, l255, l300, l319, l320, l340, l441, l456, l580, l600, l800, l886, l1206, l1526, J_add, J_sub, J_mul, J_neg, J_lt, J_le, J_eq, jT, jF, iT, iF, eT, eF, aT, aF, ite_true, ite_false, ite_not, bS, sumZ_succ, Int.natCast_add, Int.cast_ofNat_Int]
      simp [hb, b01]
  · simp (disch := omega) only [b_X12_ones_4, lm8, lm2, lm1, l0, l1, l2, l3, l4, l5, l6, l7, l8, l9, l10, l11, l12, l13, l14, l15, l16, l17, l18, l19, l20, l21, l22, l23, l24, l25, l27, l31, l32, l40, l46, l48, l50, l57, l59, l63, l86, l96, l97, l100, l110, l114, l122, l127, l200, l255, l300, l319, l320, l340, l441, l456, l580, l600, l800, l886, l1206, l1526, J_add, J_sub, J_mul, J_neg, J_lt, J_le, J_eq, jT, jF, iT, iF, eT, eF, aT, aF, ite_true, ite_false, ite_not, bS]
    rfl
