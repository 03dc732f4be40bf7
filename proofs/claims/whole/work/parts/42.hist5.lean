/-! PURE PART: postings of the reference, lost tokens -/
section H5
variable {h : Hp} {o : Nat} {T : Int → Int}
theorem RM.postings (H : RM h o T) : m_X12_postings o h = some (J (sumZ (T 5) (fun t => roN (stT T t)))) := by
  have h5 := H.wf.n5
  unfold m_X12_postings l_X12_postings_4
  refine loop_run (fun i => (J (sumZ i (fun t => roN (stT T t))), J i)) (T 5).toNat (lt_FUEL (by omega)) (fun k i hi => ?_) (fun k => ?_)
  · have hm := stT_lt H.wf (t := i) (by omega) (by omega)
    simp (disch := omega) only [b_X12_postings_4, rc_ok H.tag, H.f24, H.whereIs, X12_rowsIn_ok hm, lm8, lm2, lm1, l0, l1, l2, l3, l4, l5, l6, l7, l8, l9, l10, l11, l12, l13, l14, l15, l16, l17, l18, l19, l20, l21, l22, l23, l24, l25, l27, l31, l32, l40, l46, l48, l50, l57, l59, l63, l86, l96, l97, l100, l110, l114, l122, l127, l200, l255, l300, l319, l320, l340, l441, l456, l580, l600, l800, l886, l1206, l1526, J_add, J_sub, J_mul, J_neg, J_lt, J_le, J_eq, jT, jF, iT, iF, eT, eF, aT, aF, ite_true, ite_false, ite_not, bS, sumZ_succ, Int.natCast_add, Int.cast_ofNat_Int]
  · simp (disch := omega) only [b_X12_postings_4, H.f24, lm8, lm2, lm1, l0, l1, l2, l3, l4, l5, l6, l7, l8, l9, l10, l11, l12, l13, l14, l15, l16, l17, l18, l19, l20, l21, l22, l23, l24, l25, l27, l31, l32, l40, l46, l48, l50, l57, l59, l63, l86, l96, l97, l100, l110, l114, l122, l127, l200, l255, l300, l319, l320, l340, l441, l456, l580, l600, l800, l886, l1206, l1526, J_add, J_sub, J_mul, J_neg, J_lt, J_le, J_eq, jT, jF, iT, iF, eT, eF, aT, aF, ite_true, ite_false, ite_not, bS, Int.toNat_of_nonneg]
theorem CA.latestLengthT (H : CA h o T) {d : Int} (h1 : 0 ≤ d) (h2 : d < T 0) : m_X0_latestLength o (J d) h = some (J (lnT T d (T (1 + d) - 1))) := by
  have hn := H.wf.n0
  have hc := H.wf.2.1 d h1 h2
  have hv : vvT T d (T (1 + d) - 1) := ⟨h1, h2, by omega, by omega⟩
  simp (disch := omega) only [m_X0_latestLength, j_X0_latestLength_24, rc_ok H.tag, H.hasDocT, H.versionsOf, H.lengthOf hv, lm8, lm2, lm1, l0, l1, l2, l3, l4, l5, l6, l7, l8, l9, l10, l11, l12, l13, l14, l15, l16, l17, l18, l19, l20, l21, l22, l23, l24, l25, l27, l31, l32, l40, l46, l48, l50, l57, l59, l63, l86, l96, l97, l100, l110, l114, l122, l127, l200, l255, l300, l319, l320, l340, l441, l456, l580, l600, l800, l886, l1206, l1526, J_add, J_sub, J_mul, J_neg, J_lt, J_le, J_eq, jT, jF, iT, iF, eT, eF, aT, aF, ite_true, ite_false, ite_not, bS]
theorem CA.latestLengthF (H : CA h o T) {d : Int} (h1 : d < 0 ∨ T 0 ≤ d) (h2 : -2147483648 ≤ d) (h3 : d < 2147483648) : m_X0_latestLength o (J d) h = some (J 0) := by
  simp (disch := omega) only [m_X0_latestLength, j_X0_latestLength_24, rc_ok H.tag, H.hasDocF, lm8, lm2, lm1, l0, l1, l2, l3, l4, l5, l6, l7, l8, l9, l10, l11, l12, l13, l14, l15, l16, l17, l18, l19, l20, l21, l22, l23, l24, l25, l27, l31, l32, l40, l46, l48, l50, l57, l59, l63, l86, l96, l97, l100, l110, l114, l122, l127, l200, l255, l300, l319, l320, l340, l441, l456, l580, l600, l800, l886, l1206, l1526, J_add, J_sub, J_mul, J_neg, J_lt, J_le, J_eq, jT, jF, iT, iF, eT, eF, aT, aF, ite_true, ite_false, ite_not, bS]
end H5
