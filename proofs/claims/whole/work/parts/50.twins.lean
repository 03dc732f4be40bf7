/-! PURE PART: twins and returns, both sides -/
def vbT (T : Int → Int) (d v : Int) : Bool := decide (0 ≤ d) && decide (d < T 0) && decide (0 ≤ v) && decide (v < T (1 + d))
theorem vbT_T {T : Int → Int} {d v : Int} (h : vvT T d v) : vbT T d v = true := by
  obtain ⟨h1, h2, h3, h4⟩ := h
  unfold vbT
  rw [decide_eq_true h1, decide_eq_true h2, decide_eq_true h3, decide_eq_true h4]
  rfl
theorem vbT_iff {T : Int → Int} {d v : Int} : vbT T d v = true ↔ vvT T d v := by
  refine ⟨fun h => ?_, vbT_T⟩
  unfold vbT at h
  simp only [Bool.and_eq_true, decide_eq_true_eq] at h
  exact ⟨h.1.1.1, h.1.1.2, h.1.2, h.2⟩
theorem vbT_F {T : Int → Int} {d v : Int} (h : ¬ vvT T d v) : vbT T d v = false := by
  cases hb : vbT T d v
  · rfl
  · exact absurd (vbT_iff.mp hb) h
def twT (T : Int → Int) (d v : Int) : Int := sumZ (d + 1) (fun e => sumZ (if e = d then v else T (1 + e)) (fun w => b01 (alT T d v e w)))
def reB (T : Int → Int) (d v : Int) : Bool := !alT T d v d (v - 1) && anyZ v (fun w => alT T d v d w)
theorem reB_0 {T : Int → Int} {d : Int} : reB T d 0 = false := by
  unfold reB
  rw [anyZ_0, Bool.and_false]
theorem reB_1 {T : Int → Int} {d : Int} : reB T d 1 = false := by
  unfold reB
  have e : anyZ 1 (fun w => alT T d 1 d w) = alT T d 1 d 0 := by
    have := anyZ_succ (n := 0) (f := fun w => alT T d 1 d w) (Int.le_refl 0)
    rw [anyZ_0, Bool.false_or] at this
    exact this
  rw [e, show (1 : Int) - 1 = 0 from rfl]
  cases alT T d 1 d 0 <;> rfl
section TW
variable {h : Hp} {o : Nat} {T : Int → Int}
theorem tw_math (W : AW T) : sumZ 40 (fun i => sumZ i (fun j => b01 (vbT T (i / 10) (i % 10) && vbT T (j / 10) (j % 10) && alT T (i / 10) (i % 10) (j / 10) (j % 10)))) = sumZ (T 0) (fun d => sumZ (T (1 + d)) (fun v => twT T d v)) := by
  have h0 := W.n0
  refine (sumZ_tens (n := 4) (f := fun i => sumZ i (fun j => b01 (vbT T (i / 10) (i % 10) && vbT T (j / 10) (j % 10) && alT T (i / 10) (i % 10) (j / 10) (j % 10)))) (by omega)).trans ?_
  refine (sumZ_cut (n := T 0) h0.1 h0.2 (fun d h1 h2 => sumZ_zero (fun v h3 h4 => sumZ_zero (fun j _ _ => ?_)))).trans (sumZ_congr (fun d h1 h2 => ?_))
  · rw [(d10 h3 h4).1, (d10 h3 h4).2, vbT_F (by unfold vvT; omega)]
    rfl
  · have hn := W.2.1 d h1 h2
    refine (sumZ_cut (n := T (1 + d)) (by omega) hn.2 (fun v h3 h4 => sumZ_zero (fun j _ _ => ?_))).trans (sumZ_congr (fun v h3 h4 => ?_))
    · rw [(d10 (by omega) h4).1, (d10 (by omega) h4).2, vbT_F (by unfold vvT; omega)]
      rfl
    · have hvv : vvT T d v := ⟨h1, h2, h3, h4⟩
      refine (sumZ_split (n := 10 * d) (m := v) (by omega) h3).trans ?_
      unfold twT
      rw [sumZ_succ h1, if_pos rfl]
      refine congr (congrArg HAdd.hAdd ?_) ?_
      · refine (sumZ_tens h1).trans (sumZ_congr (fun e h5 h6 => ?_))
        have hm := W.2.1 e h5 (by omega)
        rw [if_neg (by omega)]
        refine (sumZ_cut (n := T (1 + e)) (by omega) hm.2 (fun w h7 h8 => ?_)).trans (sumZ_congr (fun w h7 h8 => ?_))
        · rw [(d10 (by omega) h8).1, (d10 (by omega) h8).2, vbT_F (d := e) (by unfold vvT; omega), Bool.and_false]
          rfl
        · rw [(d10 h3 (by omega)).1, (d10 h3 (by omega)).2, (d10 h7 (by omega)).1, (d10 h7 (by omega)).2, vbT_T hvv, vbT_T (d := e) ⟨h5, by omega, h7, h8⟩]
          rfl
      · refine sumZ_congr (fun w h7 h8 => ?_)
        rw [(d10 h3 (by omega)).1, (d10 h3 (by omega)).2, (d10 h7 (by omega)).1, (d10 h7 (by omega)).2, vbT_T hvv, vbT_T (d := d) ⟨h1, h2, h7, by omega⟩]
        rfl
theorem CA.twinsAhead (H : CA h o T) {x : Nat} (hx : hTag h x = 3) {d v : Int} (hv : vvT T d v) : m_X2_twinsAhead x o (J d) (J v) h = some (J (twT T d v)) := by
  have hb := H.wf.vb hv
  have h0 := H.wf.n0
  have inner : ∀ (e n : Int) (K : Int32 → Option Int32) (a : Int), 0 ≤ e → e < T 0 → 0 ≤ n → n ≤ T (1 + e) → l_X2_twinsAhead_33 x o (J d) (J v) (J e) (J n) h K (J a) (J 0) = K (J (a + sumZ n (fun w => b01 (alT T d v e w)))) := by
    intro e n K a he he2 hn hn2
    have := H.wf.nv he (by omega)
    unfold l_X2_twinsAhead_33
    refine loop_int (fun i => (J (a + sumZ i (fun w => b01 (alT T d v e w))), J i)) n hn (by omega) (by simp [sumZ_0]) (fun k i hi hi2 => ?_) (fun k => ?_)
    · have hw : vvT T e i := ⟨he, he2, hi, by omega⟩
      simp (disch := omega) only [b_X2_twinsAhead_33, j_X2_twinsAhead_61, rc_ok hx, H.sameWords hv hw, lm8, lm2, lm1, l0, l1, l2, l3, l4, l5, l6, l7, l8, l9, l10, l11, l12, l13, l14, l15, l16, l17, l18, l19, l20, l21, l22, l23, l24, l25, l27, l31, l32, l40, l46, l48, l50, l57, l59, l63, l86, l96, l97, l100, l110, l114, l122, l127, l200, l255, l300, l319, l320, l340, l441, l456, l580, l600, l800, l886, l1206, l1526, J_add, J_sub, J_mul, J_neg, J_lt, J_le, J_eq, jT, jF, iT, iF, eT, eF, aT, aF, ite_true, ite_false, ite_not, bs, bI, bJ, sumZ_succ, Int.add_assoc]
    · simp (disch := omega) only [b_X2_twinsAhead_33, lm8, lm2, lm1, l0, l1, l2, l3, l4, l5, l6, l7, l8, l9, l10, l11, l12, l13, l14, l15, l16, l17, l18, l19, l20, l21, l22, l23, l24, l25, l27, l31, l32, l40, l46, l48, l50, l57, l59, l63, l86, l96, l97, l100, l110, l114, l122, l127, l200, l255, l300, l319, l320, l340, l441, l456, l580, l600, l800, l886, l1206, l1526, J_add, J_sub, J_mul, J_neg, J_lt, J_le, J_eq, jT, jF, iT, iF, eT, eF, aT, aF, ite_true, ite_false, ite_not, bs]
  unfold m_X2_twinsAhead l_X2_twinsAhead_6 twT
  have hv3 := hv.2.2.2
  refine loop_int (fun i => (J (sumZ i (fun e => sumZ (if e = d then v else T (1 + e)) (fun w => b01 (alT T d v e w)))), J i)) (d + 1) (by omega) (by omega) rfl (fun k i hi hi2 => ?_) (fun k => ?_)
  · have hn := H.wf.nv hi (by omega)
    rw [sumZ_succ hi]
    by_cases hi3 : i = d
    · rw [if_pos hi3, hi3]
      have hn2 := hv.2.1
      simp (disch := omega) only [b_X2_twinsAhead_6, j_X2_twinsAhead_28, j_X2_twinsAhead_70, rc_ok H.tag, lm8, lm2, lm1, l0, l1, l2, l3, l4, l5, l6, l7, l8, l9, l10, l11, l12, l13, l14, l15, l16, l17, l18, l19, l20, l21, l22, l23, l24, l25, l27, l31, l32, l40, l46, l48, l50, l57, l59, l63, l86, l96, l97, l100, l110, l114, l122, l127, l200, l255, l300, l319, l320, l340, l441, l456, l580, l600, l800, l886, l1206, l1526, J_add, J_sub, J_mul, J_neg, J_lt, J_le, J_eq, jT, jF, iT, iF, eT, eF, aT, aF, ite_true, ite_false, ite_not, bs, inner]
    · rw [if_neg hi3]
      have hn2 := hv.2.1
      simp (disch := omega) only [b_X2_twinsAhead_6, j_X2_twinsAhead_28, j_X2_twinsAhead_70, rc_ok H.tag, H.versionsOf, lm8, lm2, lm1, l0, l1, l2, l3, l4, l5, l6, l7, l8, l9, l10, l11, l12, l13, l14, l15, l16, l17, l18, l19, l20, l21, l22, l23, l24, l25, l27, l31, l32, l40, l46, l48, l50, l57, l59, l63, l86, l96, l97, l100, l110, l114, l122, l127, l200, l255, l300, l319, l320, l340, l441, l456, l580, l600, l800, l886, l1206, l1526, J_add, J_sub, J_mul, J_neg, J_lt, J_le, J_eq, jT, jF, iT, iF, eT, eF, aT, aF, ite_true, ite_false, ite_not, bs, inner]
  · simp (disch := omega) only [b_X2_twinsAhead_6, lm8, lm2, lm1, l0, l1, l2, l3, l4, l5, l6, l7, l8, l9, l10, l11, l12, l13, l14, l15, l16, l17, l18, l19, l20, l21, l22, l23, l24, l25, l27, l31, l32, l40, l46, l48, l50, l57, l59, l63, l86, l96, l97, l100, l110, l114, l122, l127, l200, l255, l300, l319, l320, l340, l441, l456, l580, l600, l800, l886, l1206, l1526, J_add, J_sub, J_mul, J_neg, J_lt, J_le, J_eq, jT, jF, iT, iF, eT, eF, aT, aF, ite_true, ite_false, ite_not, bs]
theorem CA.twins (H : CA h o T) {x : Nat} (hx : hTag h x = 3) : m_X2_twins x o h = some (J (sumZ (T 0) (fun d => sumZ (T (1 + d)) (fun v => twT T d v)))) := by
  have h0 := H.wf.n0
  have inner : ∀ (d : Int) (K : Int32 → Option Int32) (a : Int), 0 ≤ d → d < T 0 → l_X2_twins_15 x o (J d) h K (J a) (J 0) = K (J (a + sumZ (T (1 + d)) (fun v => twT T d v))) := by
    intro d K a hd hd2
    have hn := H.wf.nv hd (by omega)
    unfold l_X2_twins_15
    refine loop_int (fun i => (J (a + sumZ i (fun v => twT T d v)), J i)) (T (1 + d)) hn.1 (by omega) (by simp [sumZ_0]) (fun k i hi hi2 => ?_) (fun k => ?_)
    · have hv : vvT T d i := ⟨hd, hd2, hi, hi2⟩
      simp (disch := omega) only [b_X2_twins_15, rc_ok H.tag, rc_ok hx, H.versionsOf, H.twinsAhead hx hv, lm8, lm2, lm1, l0, l1, l2, l3, l4, l5, l6, l7, l8, l9, l10, l11, l12, l13, l14, l15, l16, l17, l18, l19, l20, l21, l22, l23, l24, l25, l27, l31, l32, l40, l46, l48, l50, l57, l59, l63, l86, l96, l97, l100, l110, l114, l122, l127, l200, l255, l300, l319, l320, l340, l441, l456, l580, l600, l800, l886, l1206, l1526, J_add, J_sub, J_mul, J_neg, J_lt, J_le, J_eq, jT, jF, iT, iF, eT, eF, aT, aF, ite_true, ite_false, ite_not, bs, sumZ_succ, Int.add_assoc]
    · simp (disch := omega) only [b_X2_twins_15, rc_ok H.tag, H.versionsOf, lm8, lm2, lm1, l0, l1, l2, l3, l4, l5, l6, l7, l8, l9, l10, l11, l12, l13, l14, l15, l16, l17, l18, l19, l20, l21, l22, l23, l24, l25, l27, l31, l32, l40, l46, l48, l50, l57, l59, l63, l86, l96, l97, l100, l110, l114, l122, l127, l200, l255, l300, l319, l320, l340, l441, l456, l580, l600, l800, l886, l1206, l1526, J_add, J_sub, J_mul, J_neg, J_lt, J_le, J_eq, jT, jF, iT, iF, eT, eF, aT, aF, ite_true, ite_false, ite_not, bs]
  unfold m_X2_twins l_X2_twins_4
  refine loop_int (fun i => (J (sumZ i (fun d => sumZ (T (1 + d)) (fun v => twT T d v))), J i)) (T 0) h0.1 (by omega) rfl (fun k i hi hi2 => ?_) (fun k => ?_)
  · simp (disch := omega) only [b_X2_twins_4, H.f0, lm8, lm2, lm1, l0, l1, l2, l3, l4, l5, l6, l7, l8, l9, l10, l11, l12, l13, l14, l15, l16, l17, l18, l19, l20, l21, l22, l23, l24, l25, l27, l31, l32, l40, l46, l48, l50, l57, l59, l63, l86, l96, l97, l100, l110, l114, l122, l127, l200, l255, l300, l319, l320, l340, l441, l456, l580, l600, l800, l886, l1206, l1526, J_add, J_sub, J_mul, J_neg, J_lt, J_le, J_eq, jT, jF, iT, iF, eT, eF, aT, aF, ite_true, ite_false, ite_not, bs, inner, j_X2_twins_42, sumZ_succ]
  · simp (disch := omega) only [b_X2_twins_4, H.f0, lm8, lm2, lm1, l0, l1, l2, l3, l4, l5, l6, l7, l8, l9, l10, l11, l12, l13, l14, l15, l16, l17, l18, l19, l20, l21, l22, l23, l24, l25, l27, l31, l32, l40, l46, l48, l50, l57, l59, l63, l86, l96, l97, l100, l110, l114, l122, l127, l200, l255, l300, l319, l320, l340, l441, l456, l580, l600, l800, l886, l1206, l1526, J_add, J_sub, J_mul, J_neg, J_lt, J_le, J_eq, jT, jF, iT, iF, eT, eF, aT, aF, ite_true, ite_false, ite_not, bs]
theorem RM.isVer (H : RM h o T) {d v : Int} (h2 : -2147483648 ≤ d) (h3 : d < 2147483648) (h4 : -2147483648 ≤ v) (h5 : v < 2147483648) : m_X12_isVersion o (J d) (J v) h = some (J (b01 (vbT T d v))) := by
  by_cases hv : vvT T d v
  · rw [vbT_T hv]
    exact H.isVerT hv
  · rw [vbT_F hv]
    exact H.isVerF hv h2 h3 h4 h5
theorem CA.isVer (H : CA h o T) {d v : Int} (h2 : -2147483648 ≤ d) (h3 : d < 2147483648) (h4 : -2147483648 ≤ v) (h5 : v < 2147483648) : m_X0_hasVersion o (J d) (J v) h = some (J (b01 (vbT T d v))) := by
  by_cases hv : vvT T d v
  · rw [vbT_T hv]
    exact H.hasVerT hv
  · rw [vbT_F hv]
    exact H.hasVerF hv h2 h3 h4 h5
theorem RM.twins (H : RM h o T) : m_X12_twins o h = some (J (sumZ (T 0) (fun d => sumZ (T (1 + d)) (fun v => twT T d v)))) := by
  rw [← tw_math H.wf]
  have inner : ∀ (i : Int) (K : Int32 → Option Int32) (a : Int), 0 ≤ i → i < 40 → l_X12_twins_12 o (J i) h K (J a) (J 0) = K (J (a + sumZ i (fun j => b01 (vbT T (i / 10) (i % 10) && vbT T (j / 10) (j % 10) && alT T (i / 10) (i % 10) (j / 10) (j % 10))))) := by
    intro i K a hi hi2
    unfold l_X12_twins_12
    refine loop_int (fun m => (J (a + sumZ m (fun j => b01 (vbT T (i / 10) (i % 10) && vbT T (j / 10) (j % 10) && alT T (i / 10) (i % 10) (j / 10) (j % 10)))), J m)) i hi (by omega) (by simp [sumZ_0]) (fun k j hj hj2 => ?_) (fun k => ?_)
    · have e1 := H.isVer (d := i / 10) (v := i % 10) (by omega) (by omega) (by omega) (by omega)
      have e2 := H.isVer (d := j / 10) (v := j % 10) (by omega) (by omega) (by omega) (by omega)
      rw [sumZ_succ hj]
      cases hv : vbT T (i / 10) (i % 10)
      · rw [hv] at e1
        simp (disch := omega) only [b_X12_twins_12, j_X12_twins_52, j_X12_twins_88, rc_ok H.tag, J_div, J_rem, e1, lm8, lm2, lm1, l0, l1, l2, l3, l4, l5, l6, l7, l8, l9, l10, l11, l12, l13, l14, l15, l16, l17, l18, l19, l20, l21, l22, l23, l24, l25, l27, l31, l32, l40, l46, l48, l50, l57, l59, l63, l86, l96, l97, l100, l110, l114, l122, l127, l200, l255, l300, l319, l320, l340, l441, l456, l580, l600, l800, l886, l1206, l1526, J_add, J_sub, J_mul, J_neg, J_lt, J_le, J_eq, jT, jF, iT, iF, eT, eF, aT, aF, ite_true, ite_false, ite_not, bs, bI, cond_false, Bool.false_and]
        simp [b01]
      · rw [hv] at e1
        cases hw : vbT T (j / 10) (j % 10)
        · rw [hw] at e2
          simp (disch := omega) only [b_X12_twins_12, j_X12_twins_52, j_X12_twins_88, rc_ok H.tag, J_div, J_rem, e1, e2, lm8, lm2, lm1, l0, l1, l2, l3, l4, l5, l6, l7, l8, l9, l10, l11, l12, l13, l14, l15, l16, l17, l18, l19, l20, l21, l22, l23, l24, l25, l27, l31, l32, l40, l46, l48, l50, l57, l59, l63, l86, l96, l97, l100, l110, l114, l122, l127, l200, l255, l300, l319, l320, l340, l441, l456, l580, l600, l800, l886, l1206, l1526, J_add, J_sub, J_mul, J_neg, J_lt, J_le, J_eq, jT, jF, iT, iF, eT, eF, aT, aF, ite_true, ite_false, ite_not, bs, bI, cond_false, cond_true, Bool.false_and, Bool.true_and]
          simp [b01]
        · rw [hw] at e2
          have e3 := H.areAlike (vbT_iff.mp hv) (vbT_iff.mp hw)
          simp (disch := omega) only [b_X12_twins_12, j_X12_twins_52, j_X12_twins_88, rc_ok H.tag, J_div, J_rem, e1, e2, e3, lm8, lm2, lm1, l0, l1, l2, l3, l4, l5, l6, l7, l8, l9, l10, l11, l12, l13, l14, l15, l16, l17, l18, l19, l20, l21, l22, l23, l24, l25, l27, l31, l32, l40, l46, l48, l50, l57, l59, l63, l86, l96, l97, l100, l110, l114, l122, l127, l200, l255, l300, l319, l320, l340, l441, l456, l580, l600, l800, l886, l1206, l1526, J_add, J_sub, J_mul, J_neg, J_lt, J_le, J_eq, jT, jF, iT, iF, eT, eF, aT, aF, ite_true, ite_false, ite_not, bs, bI, bJ, cond_false, cond_true, Bool.false_and, Bool.true_and, Int.add_assoc]
    · simp (disch := omega) only [b_X12_twins_12, lm8, lm2, lm1, l0, l1, l2, l3, l4, l5, l6, l7, l8, l9, l10, l11, l12, l13, l14, l15, l16, l17, l18, l19, l20, l21, l22, l23, l24, l25, l27, l31, l32, l40, l46, l48, l50, l57, l59, l63, l86, l96, l97, l100, l110, l114, l122, l127, l200, l255, l300, l319, l320, l340, l441, l456, l580, l600, l800, l886, l1206, l1526, J_add, J_sub, J_mul, J_neg, J_lt, J_le, J_eq, jT, jF, iT, iF, eT, eF, aT, aF, ite_true, ite_false, ite_not, bs]
  unfold m_X12_twins l_X12_twins_4
  refine loop_int (fun i => (J (sumZ i (fun i => sumZ i (fun j => b01 (vbT T (i / 10) (i % 10) && vbT T (j / 10) (j % 10) && alT T (i / 10) (i % 10) (j / 10) (j % 10))))), J i)) 40 (by omega) (by omega) rfl (fun k i hi hi2 => ?_) (fun k => ?_)
  · simp (disch := omega) only [b_X12_twins_4, lm8, lm2, lm1, l0, l1, l2, l3, l4, l5, l6, l7, l8, l9, l10, l11, l12, l13, l14, l15, l16, l17, l18, l19, l20, l21, l22, l23, l24, l25, l27, l31, l32, l40, l46, l48, l50, l57, l59, l63, l86, l96, l97, l100, l110, l114, l122, l127, l200, l255, l300, l319, l320, l340, l441, l456, l580, l600, l800, l886, l1206, l1526, J_add, J_sub, J_mul, J_neg, J_lt, J_le, J_eq, jT, jF, iT, iF, eT, eF, aT, aF, ite_true, ite_false, ite_not, bs, inner, j_X12_twins_96, sumZ_succ]
  · simp (disch := omega) only [b_X12_twins_4, lm8, lm2, lm1, l0, l1, l2, l3, l4, l5, l6, l7, l8, l9, l10, l11, l12, l13, l14, l15, l16, l17, l18, l19, l20, l21, l22, l23, l24, l25, l27, l31, l32, l40, l46, l48, l50, l57, l59, l63, l86, l96, l97, l100, l110, l114, l122, l127, l200, l255, l300, l319, l320, l340, l441, l456, l580, l600, l800, l886, l1206, l1526, J_add, J_sub, J_mul, J_neg, J_lt, J_le, J_eq, jT, jF, iT, iF, eT, eF, aT, aF, ite_true, ite_false, ite_not, bs]
theorem CA.wasBefore (H : CA h o T) {x : Nat} (hx : hTag h x = 3) {d v : Int} (hv : vvT T d v) : m_X2_wasBefore x o (J d) (J v) h = some (J (b01 (anyZ v (fun w => alT T d v d w)))) := by
  have hb := H.wf.vb hv
  rw [← fiZ_any]
  unfold m_X2_wasBefore l_X2_wasBefore_3
  refine loop_find (fun i => J i) v (fun w => alT T d v d w) (fun i => some (J (b01 (decide (0 ≤ i))))) hb.2.2.1 (by omega) rfl (fun k i hi hi2 hp => ?_) (fun k i hi hi2 hp => ?_) (fun k => ?_)
  · have hw : vvT T d i := ⟨hv.1, hv.2.1, hi, by have := hv.2.2.2; omega⟩
    have e := H.sameWords (x := x) hv hw
    rw [hp] at e
    simp (disch := omega) only [b_X2_wasBefore_3, rc_ok hx, e, lm8, lm2, lm1, l0, l1, l2, l3, l4, l5, l6, l7, l8, l9, l10, l11, l12, l13, l14, l15, l16, l17, l18, l19, l20, l21, l22, l23, l24, l25, l27, l31, l32, l40, l46, l48, l50, l57, l59, l63, l86, l96, l97, l100, l110, l114, l122, l127, l200, l255, l300, l319, l320, l340, l441, l456, l580, l600, l800, l886, l1206, l1526, J_add, J_sub, J_mul, J_neg, J_lt, J_le, J_eq, jT, jF, iT, iF, eT, eF, aT, aF, ite_true, ite_false, ite_not, bs, bI, cond_false]
  · have hw : vvT T d i := ⟨hv.1, hv.2.1, hi, by have := hv.2.2.2; omega⟩
    have e := H.sameWords (x := x) hv hw
    rw [hp] at e
    rw [decide_eq_true hi]
    simp (disch := omega) only [b_X2_wasBefore_3, rc_ok hx, e, lm8, lm2, lm1, l0, l1, l2, l3, l4, l5, l6, l7, l8, l9, l10, l11, l12, l13, l14, l15, l16, l17, l18, l19, l20, l21, l22, l23, l24, l25, l27, l31, l32, l40, l46, l48, l50, l57, l59, l63, l86, l96, l97, l100, l110, l114, l122, l127, l200, l255, l300, l319, l320, l340, l441, l456, l580, l600, l800, l886, l1206, l1526, J_add, J_sub, J_mul, J_neg, J_lt, J_le, J_eq, jT, jF, iT, iF, eT, eF, aT, aF, ite_true, ite_false, ite_not, bs, bI, cond_true]
    rfl
  · simp (disch := omega) only [b_X2_wasBefore_3, lm8, lm2, lm1, l0, l1, l2, l3, l4, l5, l6, l7, l8, l9, l10, l11, l12, l13, l14, l15, l16, l17, l18, l19, l20, l21, l22, l23, l24, l25, l27, l31, l32, l40, l46, l48, l50, l57, l59, l63, l86, l96, l97, l100, l110, l114, l122, l127, l200, l255, l300, l319, l320, l340, l441, l456, l580, l600, l800, l886, l1206, l1526, J_add, J_sub, J_mul, J_neg, J_lt, J_le, J_eq, jT, jF, iT, iF, eT, eF, aT, aF, ite_true, ite_false, ite_not, bs]
    rfl
theorem CA.returns (H : CA h o T) {x : Nat} (hx : hTag h x = 3) {d : Int} (hd : 0 ≤ d) (hd2 : d < T 0) : m_X2_returns x o (J d) h = some (J (sumZ (T (1 + d)) (fun v => b01 (reB T d v)))) := by
  have h0 := H.wf.n0
  have hn := H.wf.2.1 d hd hd2
  have s1 : sumZ 1 (fun v => b01 (reB T d v)) = 0 := by rw [show (1 : Int) = 0 + 1 from rfl, sumZ_succ (Int.le_refl 0), sumZ_0, reB_0]; rfl
  have s2 : sumZ 2 (fun v => b01 (reB T d v)) = 0 := by rw [show (2 : Int) = 1 + 1 from rfl, sumZ_succ (by omega), s1, reB_1]; rfl
  unfold m_X2_returns l_X2_returns_5
  by_cases h2 : T (1 + d) < 2
  · rw [show T (1 + d) = 1 by omega, s1]
    refine loop_int (fun i => (J 0, J 2)) 0 (by omega) (by omega) rfl (fun k i hi hi2 => by omega) (fun k => ?_)
    simp (disch := omega) only [b_X2_returns_5, rc_ok H.tag, H.versionsOf, lm8, lm2, lm1, l0, l1, l2, l3, l4, l5, l6, l7, l8, l9, l10, l11, l12, l13, l14, l15, l16, l17, l18, l19, l20, l21, l22, l23, l24, l25, l27, l31, l32, l40, l46, l48, l50, l57, l59, l63, l86, l96, l97, l100, l110, l114, l122, l127, l200, l255, l300, l319, l320, l340, l441, l456, l580, l600, l800, l886, l1206, l1526, J_add, J_sub, J_mul, J_neg, J_lt, J_le, J_eq, jT, jF, iT, iF, eT, eF, aT, aF, ite_true, ite_false, ite_not, bs]
  · refine loop_int (fun i => (J (sumZ (i + 2) (fun v => b01 (reB T d v))), J (i + 2))) (T (1 + d) - 2) (by omega) (by omega) (by rw [show (0 : Int) + 2 = 2 from rfl, s2]; rfl) (fun k i hi hi2 => ?_) (fun k => ?_)
    · have hv : vvT T d (i + 2) := ⟨hd, hd2, by omega, by omega⟩
      have hw : vvT T d (i + 2 - 1) := ⟨hd, hd2, by omega, by omega⟩
      have e1 := H.sameWords (x := x) hv hw
      have e2 := H.wasBefore hx hv
      rw [show i + 1 + 2 = (i + 2) + 1 by omega, sumZ_succ (by omega)]
      cases ha : alT T d (i + 2) d (i + 2 - 1)
      · rw [ha] at e1
        have er : reB T d (i + 2) = anyZ (i + 2) (fun w => alT T d (i + 2) d w) := by unfold reB; rw [ha]; rfl
        rw [er]
        simp (disch := omega) only [b_X2_returns_5, j_X2_returns_36, j_X2_returns_60, rc_ok H.tag, rc_ok hx, H.versionsOf, e1, e2, lm8, lm2, lm1, l0, l1, l2, l3, l4, l5, l6, l7, l8, l9, l10, l11, l12, l13, l14, l15, l16, l17, l18, l19, l20, l21, l22, l23, l24, l25, l27, l31, l32, l40, l46, l48, l50, l57, l59, l63, l86, l96, l97, l100, l110, l114, l122, l127, l200, l255, l300, l319, l320, l340, l441, l456, l580, l600, l800, l886, l1206, l1526, J_add, J_sub, J_mul, J_neg, J_lt, J_le, J_eq, jT, jF, iT, iF, eT, eF, aT, aF, ite_true, ite_false, ite_not, bs, bI, bJ, cond_false]
      · rw [ha] at e1
        have er : reB T d (i + 2) = false := by unfold reB; rw [ha]; rfl
        rw [er]
        simp (disch := omega) only [b_X2_returns_5, j_X2_returns_36, j_X2_returns_60, rc_ok H.tag, rc_ok hx, H.versionsOf, e1, e2, lm8, lm2, lm1, l0, l1, l2, l3, l4, l5, l6, l7, l8, l9, l10, l11, l12, l13, l14, l15, l16, l17, l18, l19, l20, l21, l22, l23, l24, l25, l27, l31, l32, l40, l46, l48, l50, l57, l59, l63, l86, l96, l97, l100, l110, l114, l122, l127, l200, l255, l300, l319, l320, l340, l441, l456, l580, l600, l800, l886, l1206, l1526, J_add, J_sub, J_mul, J_neg, J_lt, J_le, J_eq, jT, jF, iT, iF, eT, eF, aT, aF, ite_true, ite_false, ite_not, bs, bI, bJ, cond_true]
        rfl
    · rw [show T (1 + d) - 2 + 2 = T (1 + d) by omega]
      simp (disch := omega) only [b_X2_returns_5, rc_ok H.tag, H.versionsOf, lm8, lm2, lm1, l0, l1, l2, l3, l4, l5, l6, l7, l8, l9, l10, l11, l12, l13, l14, l15, l16, l17, l18, l19, l20, l21, l22, l23, l24, l25, l27, l31, l32, l40, l46, l48, l50, l57, l59, l63, l86, l96, l97, l100, l110, l114, l122, l127, l200, l255, l300, l319, l320, l340, l441, l456, l580, l600, l800, l886, l1206, l1526, J_add, J_sub, J_mul, J_neg, J_lt, J_le, J_eq, jT, jF, iT, iF, eT, eF, aT, aF, ite_true, ite_false, ite_not, bs]
theorem RM.returns (H : RM h o T) {d : Int} (hd : 0 ≤ d) (hd2 : d < T 0) : m_X12_returns o (J d) h = some (J (sumZ (T (1 + d)) (fun v => b01 (reB T d v)))) := by
  have h0 := H.wf.n0
  have hn := H.wf.2.1 d hd hd2
  have s1 : sumZ 1 (fun v => b01 (reB T d v)) = 0 := by rw [show (1 : Int) = 0 + 1 from rfl, sumZ_succ (Int.le_refl 0), sumZ_0, reB_0]; rfl
  have inner : ∀ (v : Int) (K : Int32 → Option Int32) (a : Int32), vvT T d v → l_X12_returns_19 o (J d) a (J v) h K (J 0) (J 0) = K (J (b01 (anyZ v (fun w => alT T d v d w)))) := by
    intro v K a hv
    have hb := H.wf.vb hv
    unfold l_X12_returns_19
    refine loop_int (fun i => (J (b01 (anyZ i (fun w => alT T d v d w))), J i)) v hb.2.2.1 (by omega) rfl (fun k i hi hi2 => ?_) (fun k => ?_)
    · have hw : vvT T d i := ⟨hd, hd2, hi, by have := hv.2.2.2; omega⟩
      rw [anyZ_succ hi]
      cases hA : anyZ i (fun w => alT T d v d w)
      · simp (disch := omega) only [b_X12_returns_19, j_X12_returns_47, rc_ok H.tag, H.areAlike hv hw, lm8, lm2, lm1, l0, l1, l2, l3, l4, l5, l6, l7, l8, l9, l10, l11, l12, l13, l14, l15, l16, l17, l18, l19, l20, l21, l22, l23, l24, l25, l27, l31, l32, l40, l46, l48, l50, l57, l59, l63, l86, l96, l97, l100, l110, l114, l122, l127, l200, l255, l300, l319, l320, l340, l441, l456, l580, l600, l800, l886, l1206, l1526, J_add, J_sub, J_mul, J_neg, J_lt, J_le, J_eq, jT, jF, iT, iF, eT, eF, aT, aF, ite_true, ite_false, ite_not, bs, bI, bJ, cond_false, Bool.false_or]
      · simp (disch := omega) only [b_X12_returns_19, j_X12_returns_47, rc_ok H.tag, lm8, lm2, lm1, l0, l1, l2, l3, l4, l5, l6, l7, l8, l9, l10, l11, l12, l13, l14, l15, l16, l17, l18, l19, l20, l21, l22, l23, l24, l25, l27, l31, l32, l40, l46, l48, l50, l57, l59, l63, l86, l96, l97, l100, l110, l114, l122, l127, l200, l255, l300, l319, l320, l340, l441, l456, l580, l600, l800, l886, l1206, l1526, J_add, J_sub, J_mul, J_neg, J_lt, J_le, J_eq, jT, jF, iT, iF, eT, eF, aT, aF, ite_true, ite_false, ite_not, bs, bI, bJ, cond_true, Bool.true_or]
        rfl
    · simp (disch := omega) only [b_X12_returns_19, lm8, lm2, lm1, l0, l1, l2, l3, l4, l5, l6, l7, l8, l9, l10, l11, l12, l13, l14, l15, l16, l17, l18, l19, l20, l21, l22, l23, l24, l25, l27, l31, l32, l40, l46, l48, l50, l57, l59, l63, l86, l96, l97, l100, l110, l114, l122, l127, l200, l255, l300, l319, l320, l340, l441, l456, l580, l600, l800, l886, l1206, l1526, J_add, J_sub, J_mul, J_neg, J_lt, J_le, J_eq, jT, jF, iT, iF, eT, eF, aT, aF, ite_true, ite_false, ite_not, bs]
  unfold m_X12_returns l_X12_returns_4
  refine loop_int (fun i => (J (sumZ (i + 1) (fun v => b01 (reB T d v))), J (i + 1))) (T (1 + d) - 1) (by omega) (by omega) (by rw [show (0 : Int) + 1 = 1 from rfl, s1]; rfl) (fun k i hi hi2 => ?_) (fun k => ?_)
  · have hv : vvT T d (i + 1) := ⟨hd, hd2, by omega, by omega⟩
    have hw : vvT T d (i + 1 - 1) := ⟨hd, hd2, by omega, by omega⟩
    have e1 := H.areAlike hv hw
    have e2 : reB T d (i + 1) = (!alT T d (i + 1) d (i + 1 - 1) && anyZ (i + 1) (fun w => alT T d (i + 1) d w)) := rfl
    rw [sumZ_succ (n := i + 1) (by omega), e2]
    cases ha : anyZ (i + 1) (fun w => alT T d (i + 1) d w)
    · simp (disch := omega) only [b_X12_returns_4, j_X12_returns_55, j_X12_returns_79, rc_ok H.tag, H.versions, inner _ _ _ hv, ha, lm8, lm2, lm1, l0, l1, l2, l3, l4, l5, l6, l7, l8, l9, l10, l11, l12, l13, l14, l15, l16, l17, l18, l19, l20, l21, l22, l23, l24, l25, l27, l31, l32, l40, l46, l48, l50, l57, l59, l63, l86, l96, l97, l100, l110, l114, l122, l127, l200, l255, l300, l319, l320, l340, l441, l456, l580, l600, l800, l886, l1206, l1526, J_add, J_sub, J_mul, J_neg, J_lt, J_le, J_eq, jT, jF, iT, iF, eT, eF, aT, aF, ite_true, ite_false, ite_not, bs, bI, bJ, cond_false, Bool.and_false]
      rfl
    · simp (disch := omega) only [b_X12_returns_4, j_X12_returns_55, j_X12_returns_79, rc_ok H.tag, H.versions, inner _ _ _ hv, ha, e1, lm8, lm2, lm1, l0, l1, l2, l3, l4, l5, l6, l7, l8, l9, l10, l11, l12, l13, l14, l15, l16, l17, l18, l19, l20, l21, l22, l23, l24, l25, l27, l31, l32, l40, l46, l48, l50, l57, l59, l63, l86, l96, l97, l100, l110, l114, l122, l127, l200, l255, l300, l319, l320, l340, l441, l456, l580, l600, l800, l886, l1206, l1526, J_add, J_sub, J_mul, J_neg, J_lt, J_le, J_eq, jT, jF, iT, iF, eT, eF, aT, aF, ite_true, ite_false, ite_not, bs, bI, bJn, cond_true, Bool.and_true]
  · rw [show T (1 + d) - 1 + 1 = T (1 + d) by omega]
    simp (disch := omega) only [b_X12_returns_4, rc_ok H.tag, H.versions, lm8, lm2, lm1, l0, l1, l2, l3, l4, l5, l6, l7, l8, l9, l10, l11, l12, l13, l14, l15, l16, l17, l18, l19, l20, l21, l22, l23, l24, l25, l27, l31, l32, l40, l46, l48, l50, l57, l59, l63, l86, l96, l97, l100, l110, l114, l122, l127, l200, l255, l300, l319, l320, l340, l441, l456, l580, l600, l800, l886, l1206, l1526, J_add, J_sub, J_mul, J_neg, J_lt, J_le, J_eq, jT, jF, iT, iF, eT, eF, aT, aF, ite_true, ite_false, ite_not, bs]
end TW
