/-! PURE PART: what versions share, both sides -/
theorem ib10 {p : Prop} {_ : Decidable p} : (if p then J 1 else J 0) = J (b01 (decide p)) := by
  by_cases h : p
  · simp [h, b01]
  · simp [h, b01]
theorem bt_stT {T : Int → Int} {d v t : Int} (ho : owT T t = d) (hv : vvT T d v) : bt (stT T t) v = inV T d v t := by
  obtain ⟨h1, h2, h3, h4⟩ := hv
  unfold bt stT
  rw [setN_bit, ho, decide_eq_true h3, decide_eq_true (by omega), Int.toNat_of_nonneg h3]
  rfl
section HI
variable {h : Hp} {o : Nat} {T : Int → Int}
theorem CA.inBoth (H : CA h o T) {x : Nat} {d a b : Int} (ha : vvT T d a) (hb : vvT T d b) : m_X2_inBoth x o (J d) (J a) (J b) h = some (J (sumZ (lnT T d a) (fun q => b01 (inV T d b (rwT T d a q))))) := by
  have h1 := H.wf.vb ha
  have h2 := H.wf.vb hb
  have h3 := H.wf.2.2.2.2.1 d a ha
  have h5 := H.wf.2.2.2.1
  unfold m_X2_inBoth l_X2_inBoth_6
  refine loop_run (fun i => (J (sumZ i (fun q => b01 (inV T d b (rwT T d a q)))), J i)) (lnT T d a).toNat (lt_FUEL (by omega)) (fun k i hi => ?_) (fun k => ?_)
  · have hp : ppT T d a i := ⟨ha, by omega, by omega⟩
    have hr := H.wf.2.2.2.2.2.1 d a i hp
    have hm := stT_lt H.wf hr.1 hr.2.1
    simp (disch := omega) only [b_X2_inBoth_6, rc_ok H.tag, H.lengthOf ha, H.tokenAt hp, H.stayOf, X5_bit_ok hm, lm8, lm2, lm1, l0, l1, l2, l3, l4, l5, l6, l7, l8, l9, l10, l11, l12, l13, l14, l15, l16, l17, l18, l19, l20, l21, l22, l23, l24, l25, l27, l31, l32, l40, l46, l48, l50, l57, l59, l63, l86, l96, l97, l100, l110, l114, l122, l127, l200, l255, l300, l319, l320, l340, l441, l456, l580, l600, l800, l886, l1206, l1526, J_add, J_sub, J_mul, J_neg, J_lt, J_le, J_eq, jT, jF, iT, iF, eT, eF, aT, aF, ite_true, ite_false, ite_not, bS, sumZ_succ, Int.natCast_add, Int.cast_ofNat_Int]
    rw [bt_stT hr.2.2 hb]
  · simp (disch := omega) only [b_X2_inBoth_6, rc_ok H.tag, H.lengthOf ha, lm8, lm2, lm1, l0, l1, l2, l3, l4, l5, l6, l7, l8, l9, l10, l11, l12, l13, l14, l15, l16, l17, l18, l19, l20, l21, l22, l23, l24, l25, l27, l31, l32, l40, l46, l48, l50, l57, l59, l63, l86, l96, l97, l100, l110, l114, l122, l127, l200, l255, l300, l319, l320, l340, l441, l456, l580, l600, l800, l886, l1206, l1526, J_add, J_sub, J_mul, J_neg, J_lt, J_le, J_eq, jT, jF, iT, iF, eT, eF, aT, aF, ite_true, ite_false, ite_not, bS, Int.toNat_of_nonneg]
theorem RM.sharedLoop (H : RM h o T) {d a b : Int} (ha : vvT T d a) (hb : vvT T d b) : l_X12_shared_40 o (J d) (J a) (J b) h (J 0) (J 0) = some (J (sumZ (lnT T d a) (fun q => b01 (inV T d b (rwT T d a q)))), h) := by
  have h1 := H.wf.vb ha
  have h2 := H.wf.vb hb
  have h3 := H.wf.ln ha
  have h4 := H.wf.ln hb
  have h5 := H.wf.n5
  unfold l_X12_shared_40
  refine loop_run (fun i => (J (sumZ i (fun q => b01 (inV T d b (rwT T d a q)))), J i)) (lnT T d a).toNat (lt_FUEL (by omega)) (fun k i hi => ?_) (fun k => ?_)
  · have hp : ppT T d a i := ⟨ha, by omega, by omega⟩
    have hr := H.wf.rw hp
    rcases plT_cases T d b (rwT T d a i) with ⟨e1, e2⟩ | ⟨e1, e2, e3, e4⟩
    · simp (disch := omega) only [b_X12_shared_40, j_X12_shared_77, rc_ok H.tag, H.longOf, H.tokenAt, H.placeOf hb, lm8, lm2, lm1, l0, l1, l2, l3, l4, l5, l6, l7, l8, l9, l10, l11, l12, l13, l14, l15, l16, l17, l18, l19, l20, l21, l22, l23, l24, l25, l27, l31, l32, l40, l46, l48, l50, l57, l59, l63, l86, l96, l97, l100, l110, l114, l122, l127, l200, l255, l300, l319, l320, l340, l441, l456, l580, l600, l800, l886, l1206, l1526, J_add, J_sub, J_mul, J_neg, J_lt, J_le, J_eq, jT, jF, iT, iF, eT, eF, aT, aF, ite_true, ite_false, ite_not, bS, sumZ_succ, Int.natCast_add, Int.cast_ofNat_Int, e2]
      rfl
    · simp (disch := omega) only [b_X12_shared_40, j_X12_shared_77, rc_ok H.tag, H.longOf, H.tokenAt, H.placeOf hb, lm8, lm2, lm1, l0, l1, l2, l3, l4, l5, l6, l7, l8, l9, l10, l11, l12, l13, l14, l15, l16, l17, l18, l19, l20, l21, l22, l23, l24, l25, l27, l31, l32, l40, l46, l48, l50, l57, l59, l63, l86, l96, l97, l100, l110, l114, l122, l127, l200, l255, l300, l319, l320, l340, l441, l456, l580, l600, l800, l886, l1206, l1526, J_add, J_sub, J_mul, J_neg, J_lt, J_le, J_eq, jT, jF, iT, iF, eT, eF, aT, aF, ite_true, ite_false, ite_not, bS, sumZ_succ, Int.natCast_add, Int.cast_ofNat_Int, e4]
      rfl
  · simp (disch := omega) only [b_X12_shared_40, rc_ok H.tag, H.longOf, lm8, lm2, lm1, l0, l1, l2, l3, l4, l5, l6, l7, l8, l9, l10, l11, l12, l13, l14, l15, l16, l17, l18, l19, l20, l21, l22, l23, l24, l25, l27, l31, l32, l40, l46, l48, l50, l57, l59, l63, l86, l96, l97, l100, l110, l114, l122, l127, l200, l255, l300, l319, l320, l340, l441, l456, l580, l600, l800, l886, l1206, l1526, J_add, J_sub, J_mul, J_neg, J_lt, J_le, J_eq, jT, jF, iT, iF, eT, eF, aT, aF, ite_true, ite_false, ite_not, bS, Int.toNat_of_nonneg]
end HI
