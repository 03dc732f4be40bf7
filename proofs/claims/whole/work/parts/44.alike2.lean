/-! PURE PART: versions of the same words, the reference -/
section A2
variable {h : Hp} {o : Nat} {T : Int → Int}
theorem RM.areAlike (H : RM h o T) {d v e w : Int} (hv : vvT T d v) (hw : vvT T e w) : m_X12_areAlike o (J d) (J v) (J e) (J w) h = some (J (b01 (alT T d v e w))) := by
  have h1 := H.wf.vb hv
  have h2 := H.wf.vb hw
  have h3 := H.wf.ln hv
  have h4 := H.wf.ln hw
  unfold alT
  by_cases hl : lnT T d v = lnT T e w
  · rw [decide_eq_true hl, Bool.true_and]
    simp (disch := first | omega | exact hl) only [m_X12_areAlike, j_X12_areAlike_21, rc_ok H.tag, H.longOf, lm8, lm2, lm1, l0, l1, l2, l3, l4, l5, l6, l7, l8, l9, l10, l11, l12, l13, l14, l15, l16, l17, l18, l19, l20, l21, l22, l23, l24, l25, l27, l31, l32, l40, l46, l48, l50, l57, l59, l63, l86, l96, l97, l100, l110, l114, l122, l127, l200, l255, l300, l319, l320, l340, l441, l456, l580, l600, l800, l886, l1206, l1526, J_add, J_sub, J_mul, J_neg, J_lt, J_le, J_eq, jT, jF, iT, iF, eT, eF, aT, aF, ite_true, ite_false, ite_not, bS]
    unfold l_X12_areAlike_26
    have step : ∀ (k : Int32 × Int32 → Option Int32) (K : Int32 → Option Int32) (i : Nat), (i : Int) < lnT T d v → b_X12_areAlike_26 o (J d) (J v) (J e) (J w) h K (fun v5q v6q => k (v5q, v6q)) (J 1) (J i) = k (J (b01 (decide (wdT T (rwT T d v i) = wdT T (rwT T e w i)))), J ((i + 1 : Nat) : Int)) := by
      intro k K i hi
      have p1 : ppT T d v i := ⟨hv, by omega, hi⟩
      have p2 : ppT T e w i := ⟨hw, by omega, by omega⟩
      have q1 := H.wf.wd p1
      have q3 := H.wf.wd p2
      simp (disch := omega) only [b_X12_areAlike_26, j_X12_areAlike_67, rc_ok H.tag, H.longOf, H.wordAt p1, H.wordAt p2, lm8, lm2, lm1, l0, l1, l2, l3, l4, l5, l6, l7, l8, l9, l10, l11, l12, l13, l14, l15, l16, l17, l18, l19, l20, l21, l22, l23, l24, l25, l27, l31, l32, l40, l46, l48, l50, l57, l59, l63, l86, l96, l97, l100, l110, l114, l122, l127, l200, l255, l300, l319, l320, l340, l441, l456, l580, l600, l800, l886, l1206, l1526, J_add, J_sub, J_mul, J_neg, J_lt, J_le, J_eq, jT, jF, iT, iF, eT, eF, aT, aF, ite_true, ite_false, ite_not, bS, ib10, Int.natCast_add, Int.cast_ofNat_Int]
    unfold dfT
    rcases fiN_spec (lnT T d v).toNat (fun q => decide (wdT T (rwT T d v q) ≠ wdT T (rwT T e w q))) with ⟨e1, e2⟩ | ⟨i, hi, e1, e2, e3⟩
    · rw [e1]
      refine loop_run (fun i => (J 1, J i)) (lnT T d v).toNat (lt_FUEL (by omega)) (fun k i hi => ?_) (fun k => ?_)
      · have hq : wdT T (rwT T d v i) = wdT T (rwT T e w i) := by have := e2 i hi; simpa using this
        refine (step k _ i (by omega)).trans ?_
        rw [decide_eq_true hq]
        rfl
      · simp (disch := omega) only [b_X12_areAlike_26, j_X12_areAlike_75, rc_ok H.tag, H.longOf, lm8, lm2, lm1, l0, l1, l2, l3, l4, l5, l6, l7, l8, l9, l10, l11, l12, l13, l14, l15, l16, l17, l18, l19, l20, l21, l22, l23, l24, l25, l27, l31, l32, l40, l46, l48, l50, l57, l59, l63, l86, l96, l97, l100, l110, l114, l122, l127, l200, l255, l300, l319, l320, l340, l441, l456, l580, l600, l800, l886, l1206, l1526, J_add, J_sub, J_mul, J_neg, J_lt, J_le, J_eq, jT, jF, iT, iF, eT, eF, aT, aF, ite_true, ite_false, ite_not, bS, zb1, Int.toNat_of_nonneg]
        rfl
    · rw [e1, decide_eq_false (by omega)]
      have hne : wdT T (rwT T d v i) ≠ wdT T (rwT T e w i) := by simpa using e2
      refine loop_run (fun j => (J (b01 (decide (j ≤ i))), J j)) (i + 1) (lt_FUEL (by omega)) (fun k j hj => ?_) (fun k => ?_)
      · show b_X12_areAlike_26 o (J d) (J v) (J e) (J w) h _ _ (J (b01 (decide (j ≤ i)))) (J j) = _
        rw [decide_eq_true (show j ≤ i by omega)]
        refine (step k _ j (by omega)).trans ?_
        by_cases hji : j = i
        · subst hji
          rw [decide_eq_false hne, decide_eq_false (by omega)]
        · have hq : wdT T (rwT T d v j) = wdT T (rwT T e w j) := by have := e3 j (by omega); simpa using this
          rw [decide_eq_true hq, decide_eq_true (by omega)]
      · show b_X12_areAlike_26 o (J d) (J v) (J e) (J w) h _ _ (J (b01 (decide (i + 1 ≤ i)))) (J ((i + 1 : Nat) : Int)) = _
        rw [decide_eq_false (by omega)]
        have hb : b01 false = 0 := rfl
        rw [hb]
        by_cases hend : lnT T d v ≤ (i : Int) + 1
        · simp (disch := omega) only [b_X12_areAlike_26, j_X12_areAlike_75, rc_ok H.tag, H.longOf, lm8, lm2, lm1, l0, l1, l2, l3, l4, l5, l6, l7, l8, l9, l10, l11, l12, l13, l14, l15, l16, l17, l18, l19, l20, l21, l22, l23, l24, l25, l27, l31, l32, l40, l46, l48, l50, l57, l59, l63, l86, l96, l97, l100, l110, l114, l122, l127, l200, l255, l300, l319, l320, l340, l441, l456, l580, l600, l800, l886, l1206, l1526, J_add, J_sub, J_mul, J_neg, J_lt, J_le, J_eq, jT, jF, iT, iF, eT, eF, aT, aF, ite_true, ite_false, ite_not, bS, zb0, Int.natCast_add, Int.cast_ofNat_Int]
        · simp (disch := omega) only [b_X12_areAlike_26, j_X12_areAlike_75, rc_ok H.tag, H.longOf, lm8, lm2, lm1, l0, l1, l2, l3, l4, l5, l6, l7, l8, l9, l10, l11, l12, l13, l14, l15, l16, l17, l18, l19, l20, l21, l22, l23, l24, l25, l27, l31, l32, l40, l46, l48, l50, l57, l59, l63, l86, l96, l97, l100, l110, l114, l122, l127, l200, l255, l300, l319, l320, l340, l441, l456, l580, l600, l800, l886, l1206, l1526, J_add, J_sub, J_mul, J_neg, J_lt, J_le, J_eq, jT, jF, iT, iF, eT, eF, aT, aF, ite_true, ite_false, ite_not, bS, zb0, Int.natCast_add, Int.cast_ofNat_Int]
  · rw [decide_eq_false hl, Bool.false_and]
    have hl2 : lnT T d v < lnT T e w ∨ lnT T e w < lnT T d v := by omega
    simp (disch := first | omega | exact hl2) only [m_X12_areAlike, j_X12_areAlike_21, rc_ok H.tag, H.longOf, lm8, lm2, lm1, l0, l1, l2, l3, l4, l5, l6, l7, l8, l9, l10, l11, l12, l13, l14, l15, l16, l17, l18, l19, l20, l21, l22, l23, l24, l25, l27, l31, l32, l40, l46, l48, l50, l57, l59, l63, l86, l96, l97, l100, l110, l114, l122, l127, l200, l255, l300, l319, l320, l340, l441, l456, l580, l600, l800, l886, l1206, l1526, J_add, J_sub, J_mul, J_neg, J_lt, J_le, J_eq, jT, jF, iT, iF, eT, eF, aT, aF, ite_true, ite_false, ite_not, bS]
    have hb : b01 false = 0 := rfl
    rw [hb]
    unfold l_X12_areAlike_26
    refine loop_run (fun i => (J 0, J i)) 0 (lt_FUEL (by omega)) (fun k i hi => absurd hi (by omega)) (fun k => ?_)
    by_cases hend : lnT T d v ≤ 0
    · simp (disch := omega) only [b_X12_areAlike_26, j_X12_areAlike_75, rc_ok H.tag, H.longOf, lm8, lm2, lm1, l0, l1, l2, l3, l4, l5, l6, l7, l8, l9, l10, l11, l12, l13, l14, l15, l16, l17, l18, l19, l20, l21, l22, l23, l24, l25, l27, l31, l32, l40, l46, l48, l50, l57, l59, l63, l86, l96, l97, l100, l110, l114, l122, l127, l200, l255, l300, l319, l320, l340, l441, l456, l580, l600, l800, l886, l1206, l1526, J_add, J_sub, J_mul, J_neg, J_lt, J_le, J_eq, jT, jF, iT, iF, eT, eF, aT, aF, ite_true, ite_false, ite_not, bS, zb0, Int.natCast_zero]
    · simp (disch := omega) only [b_X12_areAlike_26, j_X12_areAlike_75, rc_ok H.tag, H.longOf, lm8, lm2, lm1, l0, l1, l2, l3, l4, l5, l6, l7, l8, l9, l10, l11, l12, l13, l14, l15, l16, l17, l18, l19, l20, l21, l22, l23, l24, l25, l27, l31, l32, l40, l46, l48, l50, l57, l59, l63, l86, l96, l97, l100, l110, l114, l122, l127, l200, l255, l300, l319, l320, l340, l441, l456, l580, l600, l800, l886, l1206, l1526, J_add, J_sub, J_mul, J_neg, J_lt, J_le, J_eq, jT, jF, iT, iF, eT, eF, aT, aF, ite_true, ite_false, ite_not, bS, zb0, Int.natCast_zero]
end A2
