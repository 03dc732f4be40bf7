/-! PURE PART: there or not, both sides -/
section H4
variable {h : Hp} {o : Nat} {T : Int → Int}
theorem CA.hasDocT (H : CA h o T) {d : Int} (h1 : 0 ≤ d) (h2 : d < T 0) : m_X0_hasDocument o (J d) h = some (J 1) := by
  have := H.wf.n0
  have e := H.2.2.1
  exact X0_hasDocument_T H.1 h1 (by omega) (by omega)
theorem CA.hasDocF (H : CA h o T) {d : Int} (h1 : d < 0 ∨ T 0 ≤ d) (h2 : -2147483648 ≤ d) (h3 : d < 2147483648) : m_X0_hasDocument o (J d) h = some (J 0) := by
  have e := H.2.2.1
  exact X0_hasDocument_F H.1 (by omega) h2 h3
theorem CA.hasVerT (H : CA h o T) {d v : Int} (hv : vvT T d v) : m_X0_hasVersion o (J d) (J v) h = some (J 1) := by
  have hn := H.wf.n0
  have hb := H.wf.vb hv
  have e := H.2.2.1
  refine X0_hasVersion_T H.1 hb.1 (by have := hv.2.1; omega) (by omega) hb.2.2.1 ?_
  rw [atE_in hb.1 (by omega), H.2.2.2.2.1 d hb.1 (by omega)]
  exact hv.2.2.2
theorem CA.hasVerF (H : CA h o T) {d v : Int} (hv : ¬ vvT T d v) (h2 : -2147483648 ≤ d) (h3 : d < 2147483648) (h4 : -2147483648 ≤ v) (h5 : v < 2147483648) : m_X0_hasVersion o (J d) (J v) h = some (J 0) := by
  have hn := H.wf.n0
  have e := H.2.2.1
  refine X0_hasVersion_F H.1 ?_ h2 h3 h4 h5 (by omega)
  by_cases hd : 0 ≤ d ∧ d < T 0
  · rw [atE_in hd.1 (by omega), H.2.2.2.2.1 d hd.1 (by omega)]
    unfold vvT at hv
    omega
  · omega
theorem RM.isDocT (H : RM h o T) {d : Int} (h1 : 0 ≤ d) (h2 : d < T 0) : m_X12_isDoc o (J d) h = some (J 1) := by
  have hn := H.wf.n0
  simp (disch := omega) only [m_X12_isDoc, H.1.r18, H.told, X12_in_T, lm8, lm2, lm1, l0, l1, l2, l3, l4, l5, l6, l7, l8, l9, l10, l11, l12, l13, l14, l15, l16, l17, l18, l19, l20, l21, l22, l23, l24, l25, l27, l31, l32, l40, l46, l48, l50, l57, l59, l63, l86, l96, l97, l100, l110, l114, l122, l127, l200, l255, l300, l319, l320, l340, l441, l456, l580, l600, l800, l886, l1206, l1526, J_add, J_sub, J_mul, J_neg, J_lt, J_le, J_eq, jT, jF, iT, iF, eT, eF, aT, aF, ite_true, ite_false, ite_not, bS, zb1]
theorem RM.isDocF (H : RM h o T) {d : Int} (h1 : d < 0 ∨ T 0 ≤ d) (h2 : -2147483648 ≤ d) (h3 : d < 2147483648) : m_X12_isDoc o (J d) h = some (J 0) := by
  have hn := H.wf.n0
  simp (disch := omega) only [m_X12_isDoc, H.1.r18, H.told, X12_in_F, lm8, lm2, lm1, l0, l1, l2, l3, l4, l5, l6, l7, l8, l9, l10, l11, l12, l13, l14, l15, l16, l17, l18, l19, l20, l21, l22, l23, l24, l25, l27, l31, l32, l40, l46, l48, l50, l57, l59, l63, l86, l96, l97, l100, l110, l114, l122, l127, l200, l255, l300, l319, l320, l340, l441, l456, l580, l600, l800, l886, l1206, l1526, J_add, J_sub, J_mul, J_neg, J_lt, J_le, J_eq, jT, jF, iT, iF, eT, eF, aT, aF, ite_true, ite_false, ite_not, bS, zb0]
theorem RM.isVerT (H : RM h o T) {d v : Int} (hv : vvT T d v) : m_X12_isVersion o (J d) (J v) h = some (J 1) := by
  have hn := H.wf.n0
  have hb := H.wf.vb hv
  have hc := H.wf.nv hb.1 hb.2.1
  obtain ⟨v1, v2, v3, v4⟩ := hv
  simp (disch := omega) only [m_X12_isVersion, j_X12_isVersion_28, rc_ok H.tag, H.isDocT, H.versions, X12_in_T, lm8, lm2, lm1, l0, l1, l2, l3, l4, l5, l6, l7, l8, l9, l10, l11, l12, l13, l14, l15, l16, l17, l18, l19, l20, l21, l22, l23, l24, l25, l27, l31, l32, l40, l46, l48, l50, l57, l59, l63, l86, l96, l97, l100, l110, l114, l122, l127, l200, l255, l300, l319, l320, l340, l441, l456, l580, l600, l800, l886, l1206, l1526, J_add, J_sub, J_mul, J_neg, J_lt, J_le, J_eq, jT, jF, iT, iF, eT, eF, aT, aF, ite_true, ite_false, ite_not, bS, zb1]
theorem RM.isVerF (H : RM h o T) {d v : Int} (hv : ¬ vvT T d v) (h2 : -2147483648 ≤ d) (h3 : d < 2147483648) (h4 : -2147483648 ≤ v) (h5 : v < 2147483648) : m_X12_isVersion o (J d) (J v) h = some (J 0) := by
  have hn := H.wf.n0
  by_cases hd : 0 ≤ d ∧ d < T 0
  · have hc := H.wf.nv hd.1 (by omega)
    have hw : v < 0 ∨ T (1 + d) - 1 < v := by unfold vvT at hv; omega
    simp (disch := omega) only [m_X12_isVersion, j_X12_isVersion_28, rc_ok H.tag, H.isDocT, H.versions, X12_in_F, lm8, lm2, lm1, l0, l1, l2, l3, l4, l5, l6, l7, l8, l9, l10, l11, l12, l13, l14, l15, l16, l17, l18, l19, l20, l21, l22, l23, l24, l25, l27, l31, l32, l40, l46, l48, l50, l57, l59, l63, l86, l96, l97, l100, l110, l114, l122, l127, l200, l255, l300, l319, l320, l340, l441, l456, l580, l600, l800, l886, l1206, l1526, J_add, J_sub, J_mul, J_neg, J_lt, J_le, J_eq, jT, jF, iT, iF, eT, eF, aT, aF, ite_true, ite_false, ite_not, bS, zb0]
  · have hd2 : d < 0 ∨ T 0 ≤ d := by omega
    simp (disch := omega) only [m_X12_isVersion, j_X12_isVersion_28, rc_ok H.tag, H.isDocF, lm8, lm2, lm1, l0, l1, l2, l3, l4, l5, l6, l7, l8, l9, l10, l11, l12, l13, l14, l15, l16, l17, l18, l19, l20, l21, l22, l23, l24, l25, l27, l31, l32, l40, l46, l48, l50, l57, l59, l63, l86, l96, l97, l100, l110, l114, l122, l127, l200, l255, l300, l319, l320, l340, l441, l456, l580, l600, l800, l886, l1206, l1526, J_add, J_sub, J_mul, J_neg, J_lt, J_le, J_eq, jT, jF, iT, iF, eT, eF, aT, aF, ite_true, ite_false, ite_not, bS, zb0]
end H4
