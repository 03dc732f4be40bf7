/-! PURE PART: lost tokens, both sides -/
theorem sumN_sub {n : Nat} {f : Nat → Bool} : (n : Int) - sumN n (fun i => b01 (f i)) = sumN n (fun i => b01 (!f i)) := by
  induction n with
  | zero => rfl
  | succ n ih =>
    show ((n + 1 : Nat) : Int) - (sumN n (fun i => b01 (f i)) + b01 (f n)) = sumN n (fun i => b01 (!f i)) + b01 (!f n)
    rw [← ih]
    cases f n <;> simp [b01] <;> omega
section LO
variable {h : Hp} {o : Nat} {T : Int → Int}
def loT (T : Int → Int) (d v : Int) : Int := sumZ (lnT T d (v - 1)) (fun q => b01 (!inV T d v (rwT T d (v - 1) q)))
theorem CA.lost (H : CA h o T) {x : Nat} (hx : hTag h x = 3) {d v : Int} (hv : vvT T d v) : m_X2_lost x o (J d) (J v) h = some (J (if v = 0 then 0 else loT T d v)) := by
  have hb := H.wf.vb hv
  by_cases h0 : v = 0
  · subst h0
    simp (disch := omega) only [m_X2_lost, lm8, lm2, lm1, l0, l1, l2, l3, l4, l5, l6, l7, l8, l9, l10, l11, l12, l13, l14, l15, l16, l17, l18, l19, l20, l21, l22, l23, l24, l25, l27, l31, l32, l40, l46, l48, l50, l57, l59, l63, l86, l96, l97, l100, l110, l114, l122, l127, l200, l255, l300, l319, l320, l340, l441, l456, l580, l600, l800, l886, l1206, l1526, J_add, J_sub, J_mul, J_neg, J_lt, J_le, J_eq, jT, jF, iT, iF, eT, eF, aT, aF, ite_true, ite_false, ite_not, bS]
  · rw [if_neg h0]
    have hw : vvT T d (v - 1) := ⟨hv.1, hv.2.1, by omega, by have := hv.2.2.2; omega⟩
    have hl := H.wf.ln hw
    simp (disch := omega) only [m_X2_lost, rc_ok H.tag, rc_ok hx, H.lengthOf hw, H.inBoth hw hv, lm8, lm2, lm1, l0, l1, l2, l3, l4, l5, l6, l7, l8, l9, l10, l11, l12, l13, l14, l15, l16, l17, l18, l19, l20, l21, l22, l23, l24, l25, l27, l31, l32, l40, l46, l48, l50, l57, l59, l63, l86, l96, l97, l100, l110, l114, l122, l127, l200, l255, l300, l319, l320, l340, l441, l456, l580, l600, l800, l886, l1206, l1526, J_add, J_sub, J_mul, J_neg, J_lt, J_le, J_eq, jT, jF, iT, iF, eT, eF, aT, aF, ite_true, ite_false, ite_not, bS]
    unfold loT sumZ
    rw [← sumN_sub, Int.toNat_of_nonneg hl.1]
theorem RM.lost (H : RM h o T) {d v : Int} (hv : vvT T d v) : m_X12_lost o (J d) (J v) h = some (J (if v = 0 then 0 else loT T d v)) := by
  have hb := H.wf.vb hv
  unfold m_X12_lost l_X12_lost_5
  by_cases h0 : v = 0
  · subst h0
    refine loop_run (fun i => (J 0, J i)) 0 (lt_FUEL (by omega)) (fun k i hi => absurd hi (by omega)) (fun k => ?_)
    simp (disch := omega) only [b_X12_lost_5, lm8, lm2, lm1, l0, l1, l2, l3, l4, l5, l6, l7, l8, l9, l10, l11, l12, l13, l14, l15, l16, l17, l18, l19, l20, l21, l22, l23, l24, l25, l27, l31, l32, l40, l46, l48, l50, l57, l59, l63, l86, l96, l97, l100, l110, l114, l122, l127, l200, l255, l300, l319, l320, l340, l441, l456, l580, l600, l800, l886, l1206, l1526, J_add, J_sub, J_mul, J_neg, J_lt, J_le, J_eq, jT, jF, iT, iF, eT, eF, aT, aF, ite_true, ite_false, ite_not, bS, Int.natCast_zero]
  · rw [if_neg h0]
    have hw : vvT T d (v - 1) := ⟨hv.1, hv.2.1, by omega, by have := hv.2.2.2; omega⟩
    have hl := H.wf.ln hw
    have hl2 := H.wf.ln hv
    have h5 := H.wf.n5
    refine loop_run (fun i => (J (sumZ i (fun q => b01 (!inV T d v (rwT T d (v - 1) q)))), J i)) (lnT T d (v - 1)).toNat (lt_FUEL (by omega)) (fun k i hi => ?_) (fun k => ?_)
    · have hp : ppT T d (v - 1) i := ⟨hw, by omega, by omega⟩
      have hr := H.wf.rw hp
      rcases plT_cases T d v (rwT T d (v - 1) i) with ⟨e1, e2⟩ | ⟨e1, e2, e3, e4⟩
      · simp (disch := omega) only [b_X12_lost_5, j_X12_lost_48, rc_ok H.tag, H.longOf, H.tokenAt, H.placeOf hv, lm8, lm2, lm1, l0, l1, l2, l3, l4, l5, l6, l7, l8, l9, l10, l11, l12, l13, l14, l15, l16, l17, l18, l19, l20, l21, l22, l23, l24, l25, l27, l31, l32, l40, l46, l48, l50, l57, l59, l63, l86, l96, l97, l100, l110, l114, l122, l127, l200, l255, l300, l319, l320, l340, l441, l456, l580, l600, l800, l886, l1206, l1526, J_add, J_sub, J_mul, J_neg, J_lt, J_le, J_eq, jT, jF, iT, iF, eT, eF, aT, aF, ite_true, ite_false, ite_not, bS, sumZ_succ, Int.natCast_add, Int.cast_ofNat_Int, e2]
        rfl
      · simp (disch := omega) only [b_X12_lost_5, j_X12_lost_48, rc_ok H.tag, H.longOf, H.tokenAt, H.placeOf hv, lm8, lm2, lm1, l0, l1, l2, l3, l4, l5, l6, l7, l8, l9, l10, l11, l12, l13, l14, l15, l16, l17, l18, l19, l20, l21, l22, l23, l24, l25, l27, l31, l32, l40, l46, l48, l50, l57, l59, l63, l86, l96, l97, l100, l110, l114, l122, l127, l200, l255, l300, l319, l320, l340, l441, l456, l580, l600, l800, l886, l1206, l1526, J_add, J_sub, J_mul, J_neg, J_lt, J_le, J_eq, jT, jF, iT, iF, eT, eF, aT, aF, ite_true, ite_false, ite_not, bS, sumZ_succ, Int.natCast_add, Int.cast_ofNat_Int, e4]
        rfl
    · simp (disch := omega) only [b_X12_lost_5, rc_ok H.tag, H.longOf, lm8, lm2, lm1, l0, l1, l2, l3, l4, l5, l6, l7, l8, l9, l10, l11, l12, l13, l14, l15, l16, l17, l18, l19, l20, l21, l22, l23, l24, l25, l27, l31, l32, l40, l46, l48, l50, l57, l59, l63, l86, l96, l97, l100, l110, l114, l122, l127, l200, l255, l300, l319, l320, l340, l441, l456, l580, l600, l800, l886, l1206, l1526, J_add, J_sub, J_mul, J_neg, J_lt, J_le, J_eq, jT, jF, iT, iF, eT, eF, aT, aF, ite_true, ite_false, ite_not, bS, Int.toNat_of_nonneg]
      rfl
end LO
