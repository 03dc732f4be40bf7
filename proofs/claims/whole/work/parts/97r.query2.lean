/-! PURE PART: what is asked of versions, words, both sides -/
section MQ2
variable {h : Hp} {x o : Nat} {S : Sx} {a : Int}
theorem SBo.version (M : SBo h x o S) {d v w : Int} (a0 : -2147483648 ≤ a) (a1 : a < 2147483648) (d0 : -2147483648 ≤ d) (d1 : d < 2147483648) (v0 : -2147483648 ≤ v) (v1 : v < 2147483648) (w0 : -2147483648 ≤ w) (w1 : w < 2147483648) : Qy h x o (m_X11_version x (J a) (J d) (J v) (J w) h) (m_X12_version o (J a) (J d) (J v) (J w)) := by
  obtain ⟨g, e, F, R⟩ := M.ref a0 a1
  unfold Qy m_X11_version m_X12_version
  rw [M.aN a0 a1, e]
  by_cases c : ndB S 0 a = true
  · rw [if_pos c, c]
    obtain ⟨C, D, W⟩ := M.arch c
    have RMg := R c
    have A := (M.wfA c).1
    have n0 := A.n0
    have hx := M.hi.1
    generalize x + 8 + 17 * a.toNat = o1 at *
    have Rc := R c
    generalize sT S a = T at *
    have f1 : (if (J (b01 true), g).1 = 0 then (some ((-1 : Int32), (J (b01 true), g).2) : Option (Int32 × Hp)) else some (J 0, g)) = some (J 0, g) := if_neg (show ¬ (J 1 : Int32) = J 0 by decide)
    by_cases hv : vvT T d v
    · have hb := A.vb hv
      have hl := A.ln hv
      have hc := C.hasVerT hv
      have hr := RMg.isVerT hv
      by_cases c0 : w = 0
      · refine ⟨lnT T d v, g, ?_, ?_, F⟩
        · rw [c0]
          simp (disch := omega) only [rc_ok C.tag, hc, C.lengthOf hv, lm8, lm2, lm1, l0, l1, l2, l3, l4, l5, l6, l7, l8, l9, l10, l11, l12, l13, l14, l15, l16, l17, l18, l19, l20, l21, l22, l23, l24, l25, l27, l31, l32, l40, l46, l48, l50, l57, l59, l63, l86, l96, l97, l100, l110, l114, l122, l127, l200, l255, l300, l319, l320, l340, l441, l456, l580, l600, l800, l886, l1206, l1526, J_add, J_sub, J_mul, J_neg, J_lt, J_le, J_eq, jT, jF, iT, iF, eT, eF, aT, aF, ite_true, ite_false, ite_not, bs]
        · rw [c0]
          simp (disch := omega) only [rc_ok RMg.tag, hr, RMg.longOf, bI, bN, cond_true, lm8, lm2, lm1, l0, l1, l2, l3, l4, l5, l6, l7, l8, l9, l10, l11, l12, l13, l14, l15, l16, l17, l18, l19, l20, l21, l22, l23, l24, l25, l27, l31, l32, l40, l46, l48, l50, l57, l59, l63, l86, l96, l97, l100, l110, l114, l122, l127, l200, l255, l300, l319, l320, l340, l441, l456, l580, l600, l800, l886, l1206, l1526, J_add, J_sub, J_mul, J_neg, J_lt, J_le, J_eq, jT, jF, iT, iF, eT, eF, aT, aF, ite_true, ite_false, ite_not, bs]
      · have c0' : w < 0 ∨ 0 < w := by omega
        by_cases c1 : w = 1
        · have t6 : alI g (o + 9) (J (6 + (10 * d + v))) = some (J (dtT T d v)) := RMg.told (by omega) (by omega)
          refine ⟨dtT T d v, g, ?_, ?_, F⟩
          · rw [c1]
            simp (disch := omega) only [rc_ok C.tag, hc, C.dateOf D hv, lm8, lm2, lm1, l0, l1, l2, l3, l4, l5, l6, l7, l8, l9, l10, l11, l12, l13, l14, l15, l16, l17, l18, l19, l20, l21, l22, l23, l24, l25, l27, l31, l32, l40, l46, l48, l50, l57, l59, l63, l86, l96, l97, l100, l110, l114, l122, l127, l200, l255, l300, l319, l320, l340, l441, l456, l580, l600, l800, l886, l1206, l1526, J_add, J_sub, J_mul, J_neg, J_lt, J_le, J_eq, jT, jF, iT, iF, eT, eF, aT, aF, ite_true, ite_false, ite_not, bs]
          · rw [c1]
            simp (disch := omega) only [rc_ok RMg.tag, hr, RMg.1.r18, X12_at_ok, t6, bI, bN, cond_true, lm8, lm2, lm1, l0, l1, l2, l3, l4, l5, l6, l7, l8, l9, l10, l11, l12, l13, l14, l15, l16, l17, l18, l19, l20, l21, l22, l23, l24, l25, l27, l31, l32, l40, l46, l48, l50, l57, l59, l63, l86, l96, l97, l100, l110, l114, l122, l127, l200, l255, l300, l319, l320, l340, l441, l456, l580, l600, l800, l886, l1206, l1526, J_add, J_sub, J_mul, J_neg, J_lt, J_le, J_eq, jT, jF, iT, iF, eT, eF, aT, aF, ite_true, ite_false, ite_not, bs]
        · have c1' : w < 1 ∨ 1 < w := by omega
          by_cases c2 : w = 2
          · obtain ⟨y, pv, qv⟩ : ∃ y, m_X2_fresh (x + 66) o1 (J d) (J v) h = some (J y) ∧ m_X12_fresh o (J d) (J v) g = some (J y) := ⟨_, C.fresh hv, RMg.fresh hv⟩
            refine ⟨y, g, ?_, ?_, F⟩
            · rw [c2]
              simp (disch := omega) only [rc_ok C.tag, hc, M.r3, rc_ok hx, pv, lm8, lm2, lm1, l0, l1, l2, l3, l4, l5, l6, l7, l8, l9, l10, l11, l12, l13, l14, l15, l16, l17, l18, l19, l20, l21, l22, l23, l24, l25, l27, l31, l32, l40, l46, l48, l50, l57, l59, l63, l86, l96, l97, l100, l110, l114, l122, l127, l200, l255, l300, l319, l320, l340, l441, l456, l580, l600, l800, l886, l1206, l1526, J_add, J_sub, J_mul, J_neg, J_lt, J_le, J_eq, jT, jF, iT, iF, eT, eF, aT, aF, ite_true, ite_false, ite_not, bs]
            · rw [c2]
              simp (disch := omega) only [rc_ok RMg.tag, hr, qv, bI, bN, cond_true, lm8, lm2, lm1, l0, l1, l2, l3, l4, l5, l6, l7, l8, l9, l10, l11, l12, l13, l14, l15, l16, l17, l18, l19, l20, l21, l22, l23, l24, l25, l27, l31, l32, l40, l46, l48, l50, l57, l59, l63, l86, l96, l97, l100, l110, l114, l122, l127, l200, l255, l300, l319, l320, l340, l441, l456, l580, l600, l800, l886, l1206, l1526, J_add, J_sub, J_mul, J_neg, J_lt, J_le, J_eq, jT, jF, iT, iF, eT, eF, aT, aF, ite_true, ite_false, ite_not, bs]
          · have c2' : w < 2 ∨ 2 < w := by omega
            by_cases c3 : w = 3
            · obtain ⟨y, pv, qv⟩ : ∃ y, m_X2_lost (x + 66) o1 (J d) (J v) h = some (J y) ∧ m_X12_lost o (J d) (J v) g = some (J y) := ⟨_, C.lost hx hv, RMg.lost hv⟩
              refine ⟨y, g, ?_, ?_, F⟩
              · rw [c3]
                simp (disch := omega) only [rc_ok C.tag, hc, M.r3, rc_ok hx, pv, lm8, lm2, lm1, l0, l1, l2, l3, l4, l5, l6, l7, l8, l9, l10, l11, l12, l13, l14, l15, l16, l17, l18, l19, l20, l21, l22, l23, l24, l25, l27, l31, l32, l40, l46, l48, l50, l57, l59, l63, l86, l96, l97, l100, l110, l114, l122, l127, l200, l255, l300, l319, l320, l340, l441, l456, l580, l600, l800, l886, l1206, l1526, J_add, J_sub, J_mul, J_neg, J_lt, J_le, J_eq, jT, jF, iT, iF, eT, eF, aT, aF, ite_true, ite_false, ite_not, bs]
              · rw [c3]
                simp (disch := omega) only [rc_ok RMg.tag, hr, qv, bI, bN, cond_true, lm8, lm2, lm1, l0, l1, l2, l3, l4, l5, l6, l7, l8, l9, l10, l11, l12, l13, l14, l15, l16, l17, l18, l19, l20, l21, l22, l23, l24, l25, l27, l31, l32, l40, l46, l48, l50, l57, l59, l63, l86, l96, l97, l100, l110, l114, l122, l127, l200, l255, l300, l319, l320, l340, l441, l456, l580, l600, l800, l886, l1206, l1526, J_add, J_sub, J_mul, J_neg, J_lt, J_le, J_eq, jT, jF, iT, iF, eT, eF, aT, aF, ite_true, ite_false, ite_not, bs]
            · have c3' : w < 3 ∨ 3 < w := by omega
              by_cases c4 : w = 4
              · have eq : (if v = 0 then 0 else tuT T d v) = if v = 0 then 0 else trT T d v := by
                  by_cases q : v = 0
                  · rw [if_pos q, if_pos q]
                  · rw [if_neg q, if_neg q, turned_eq A hv ⟨hv.1, hv.2.1, by omega, by have := hv.2.2.2; omega⟩]
                have p1 := C.turned (x := x + 66) hx hv
                rw [eq] at p1
                obtain ⟨y, pv, qv⟩ : ∃ y, m_X2_turned (x + 66) o1 (J d) (J v) h = some (J y) ∧ m_X12_turned o (J d) (J v) g = some (J y) := ⟨_, p1, RMg.turned hv⟩
                refine ⟨y, g, ?_, ?_, F⟩
                · rw [c4]
                  simp (disch := omega) only [rc_ok C.tag, hc, M.r3, rc_ok hx, pv, lm8, lm2, lm1, l0, l1, l2, l3, l4, l5, l6, l7, l8, l9, l10, l11, l12, l13, l14, l15, l16, l17, l18, l19, l20, l21, l22, l23, l24, l25, l27, l31, l32, l40, l46, l48, l50, l57, l59, l63, l86, l96, l97, l100, l110, l114, l122, l127, l200, l255, l300, l319, l320, l340, l441, l456, l580, l600, l800, l886, l1206, l1526, J_add, J_sub, J_mul, J_neg, J_lt, J_le, J_eq, jT, jF, iT, iF, eT, eF, aT, aF, ite_true, ite_false, ite_not, bs]
                · rw [c4]
                  simp (disch := omega) only [rc_ok RMg.tag, hr, qv, bI, bN, cond_true, lm8, lm2, lm1, l0, l1, l2, l3, l4, l5, l6, l7, l8, l9, l10, l11, l12, l13, l14, l15, l16, l17, l18, l19, l20, l21, l22, l23, l24, l25, l27, l31, l32, l40, l46, l48, l50, l57, l59, l63, l86, l96, l97, l100, l110, l114, l122, l127, l200, l255, l300, l319, l320, l340, l441, l456, l580, l600, l800, l886, l1206, l1526, J_add, J_sub, J_mul, J_neg, J_lt, J_le, J_eq, jT, jF, iT, iF, eT, eF, aT, aF, ite_true, ite_false, ite_not, bs]
              · have c4' : w < 4 ∨ 4 < w := by omega
                by_cases c5 : w = 5
                · obtain ⟨y, pv, qv⟩ : ∃ y, m_X2_oldest (x + 66) o1 (J d) (J v) h = some (J y) ∧ m_X12_oldest o (J d) (J v) g = some (J y) := ⟨_, C.oldest hv, RMg.oldest hv⟩
                  refine ⟨y, g, ?_, ?_, F⟩
                  · rw [c5]
                    simp (disch := omega) only [rc_ok C.tag, hc, M.r3, rc_ok hx, pv, lm8, lm2, lm1, l0, l1, l2, l3, l4, l5, l6, l7, l8, l9, l10, l11, l12, l13, l14, l15, l16, l17, l18, l19, l20, l21, l22, l23, l24, l25, l27, l31, l32, l40, l46, l48, l50, l57, l59, l63, l86, l96, l97, l100, l110, l114, l122, l127, l200, l255, l300, l319, l320, l340, l441, l456, l580, l600, l800, l886, l1206, l1526, J_add, J_sub, J_mul, J_neg, J_lt, J_le, J_eq, jT, jF, iT, iF, eT, eF, aT, aF, ite_true, ite_false, ite_not, bs]
                  · rw [c5]
                    simp (disch := omega) only [rc_ok RMg.tag, hr, qv, bI, bN, cond_true, lm8, lm2, lm1, l0, l1, l2, l3, l4, l5, l6, l7, l8, l9, l10, l11, l12, l13, l14, l15, l16, l17, l18, l19, l20, l21, l22, l23, l24, l25, l27, l31, l32, l40, l46, l48, l50, l57, l59, l63, l86, l96, l97, l100, l110, l114, l122, l127, l200, l255, l300, l319, l320, l340, l441, l456, l580, l600, l800, l886, l1206, l1526, J_add, J_sub, J_mul, J_neg, J_lt, J_le, J_eq, jT, jF, iT, iF, eT, eF, aT, aF, ite_true, ite_false, ite_not, bs]
                · have c5' : w < 5 ∨ 5 < w := by omega
                  by_cases c10 : w < 10
                  · refine ⟨-1, g, ?_, ?_, F⟩
                    · simp (disch := first | omega | assumption) only [rc_ok C.tag, hc, j_X11_version_155, lm1, lm8, lm2, lm1, l0, l1, l2, l3, l4, l5, l6, l7, l8, l9, l10, l11, l12, l13, l14, l15, l16, l17, l18, l19, l20, l21, l22, l23, l24, l25, l27, l31, l32, l40, l46, l48, l50, l57, l59, l63, l86, l96, l97, l100, l110, l114, l122, l127, l200, l255, l300, l319, l320, l340, l441, l456, l580, l600, l800, l886, l1206, l1526, J_add, J_sub, J_mul, J_neg, J_lt, J_le, J_eq, jT, jF, iT, iF, eT, eF, aT, aF, ite_true, ite_false, ite_not, bs]
                    · simp (disch := first | omega | assumption) only [rc_ok RMg.tag, hr, lm1, bI, bN, cond_true, lm8, lm2, lm1, l0, l1, l2, l3, l4, l5, l6, l7, l8, l9, l10, l11, l12, l13, l14, l15, l16, l17, l18, l19, l20, l21, l22, l23, l24, l25, l27, l31, l32, l40, l46, l48, l50, l57, l59, l63, l86, l96, l97, l100, l110, l114, l122, l127, l200, l255, l300, l319, l320, l340, l441, l456, l580, l600, l800, l886, l1206, l1526, J_add, J_sub, J_mul, J_neg, J_lt, J_le, J_eq, jT, jF, iT, iF, eT, eF, aT, aF, ite_true, ite_false, ite_not, bs]
                  · have p1 := C.wordNumberAt hv (q := w - 10) (by omega) (by omega)
                    by_cases q : w - 10 < lnT T d v
                    · rw [if_pos ⟨by omega, q⟩] at p1
                      have p2 := RMg.wordAt (d := d) (v := v) (q := w - 10) ⟨hv, by omega, q⟩
                      have p3 := RMg.longOf (d := d) (v := v) (by omega) (by omega)
                      generalize wdT T (rwT T d v (w - 10)) = y at *
                      generalize lnT T d v = ln at *
                      refine ⟨y, g, ?_, ?_, F⟩
                      · simp (disch := first | omega | assumption) only [rc_ok C.tag, hc, j_X11_version_155, p1, lm8, lm2, lm1, l0, l1, l2, l3, l4, l5, l6, l7, l8, l9, l10, l11, l12, l13, l14, l15, l16, l17, l18, l19, l20, l21, l22, l23, l24, l25, l27, l31, l32, l40, l46, l48, l50, l57, l59, l63, l86, l96, l97, l100, l110, l114, l122, l127, l200, l255, l300, l319, l320, l340, l441, l456, l580, l600, l800, l886, l1206, l1526, J_add, J_sub, J_mul, J_neg, J_lt, J_le, J_eq, jT, jF, iT, iF, eT, eF, aT, aF, ite_true, ite_false, ite_not, bs]
                      · simp (disch := first | omega | assumption) only [rc_ok RMg.tag, hr, p3, p2, j_X12_version_60, bI, bN, cond_true, lm8, lm2, lm1, l0, l1, l2, l3, l4, l5, l6, l7, l8, l9, l10, l11, l12, l13, l14, l15, l16, l17, l18, l19, l20, l21, l22, l23, l24, l25, l27, l31, l32, l40, l46, l48, l50, l57, l59, l63, l86, l96, l97, l100, l110, l114, l122, l127, l200, l255, l300, l319, l320, l340, l441, l456, l580, l600, l800, l886, l1206, l1526, J_add, J_sub, J_mul, J_neg, J_lt, J_le, J_eq, jT, jF, iT, iF, eT, eF, aT, aF, ite_true, ite_false, ite_not, bs]
                    · rw [if_neg (fun y => q y.2)] at p1
                      have p3 := RMg.longOf (d := d) (v := v) (by omega) (by omega)
                      generalize lnT T d v = ln at *
                      refine ⟨-1, g, ?_, ?_, F⟩
                      · simp (disch := first | omega | assumption) only [rc_ok C.tag, hc, j_X11_version_155, p1, lm8, lm2, lm1, l0, l1, l2, l3, l4, l5, l6, l7, l8, l9, l10, l11, l12, l13, l14, l15, l16, l17, l18, l19, l20, l21, l22, l23, l24, l25, l27, l31, l32, l40, l46, l48, l50, l57, l59, l63, l86, l96, l97, l100, l110, l114, l122, l127, l200, l255, l300, l319, l320, l340, l441, l456, l580, l600, l800, l886, l1206, l1526, J_add, J_sub, J_mul, J_neg, J_lt, J_le, J_eq, jT, jF, iT, iF, eT, eF, aT, aF, ite_true, ite_false, ite_not, bs]
                      · simp (disch := first | omega | assumption) only [rc_ok RMg.tag, hr, p3, j_X12_version_60, lm1, bI, bN, cond_true, lm8, lm2, lm1, l0, l1, l2, l3, l4, l5, l6, l7, l8, l9, l10, l11, l12, l13, l14, l15, l16, l17, l18, l19, l20, l21, l22, l23, l24, l25, l27, l31, l32, l40, l46, l48, l50, l57, l59, l63, l86, l96, l97, l100, l110, l114, l122, l127, l200, l255, l300, l319, l320, l340, l441, l456, l580, l600, l800, l886, l1206, l1526, J_add, J_sub, J_mul, J_neg, J_lt, J_le, J_eq, jT, jF, iT, iF, eT, eF, aT, aF, ite_true, ite_false, ite_not, bs]
    · have hc := C.hasVerF hv d0 d1 v0 v1
      have hr := RMg.isVerF hv d0 d1 v0 v1
      refine ⟨-1, g, ?_, ?_, F⟩
      · simp (disch := omega) only [rc_ok C.tag, hc, lm1, lm8, lm2, lm1, l0, l1, l2, l3, l4, l5, l6, l7, l8, l9, l10, l11, l12, l13, l14, l15, l16, l17, l18, l19, l20, l21, l22, l23, l24, l25, l27, l31, l32, l40, l46, l48, l50, l57, l59, l63, l86, l96, l97, l100, l110, l114, l122, l127, l200, l255, l300, l319, l320, l340, l441, l456, l580, l600, l800, l886, l1206, l1526, J_add, J_sub, J_mul, J_neg, J_lt, J_le, J_eq, jT, jF, iT, iF, eT, eF, aT, aF, ite_true, ite_false, ite_not, bs]
      · simp (disch := omega) only [rc_ok RMg.tag, hr, lm1, bI, bN, cond_true, lm8, lm2, lm1, l0, l1, l2, l3, l4, l5, l6, l7, l8, l9, l10, l11, l12, l13, l14, l15, l16, l17, l18, l19, l20, l21, l22, l23, l24, l25, l27, l31, l32, l40, l46, l48, l50, l57, l59, l63, l86, l96, l97, l100, l110, l114, l122, l127, l200, l255, l300, l319, l320, l340, l441, l456, l580, l600, l800, l886, l1206, l1526, J_add, J_sub, J_mul, J_neg, J_lt, J_le, J_eq, jT, jF, iT, iF, eT, eF, aT, aF, ite_true, ite_false, ite_not, bs]
  · have c' : ndB S 0 a = false := by simpa using c
    rw [if_neg c, c']
    exact ⟨-1, g, rfl, if_pos rfl, F⟩
theorem SBo.life (M : SBo h x o S) {d v p w : Int} (a0 : -2147483648 ≤ a) (a1 : a < 2147483648) (d0 : -2147483648 ≤ d) (d1 : d < 2147483648) (v0 : -2147483648 ≤ v) (v1 : v < 2147483648) (p0 : -2147483648 ≤ p) (p1 : p < 2147483648) (w0 : -2147483648 ≤ w) (w1 : w < 2147483648) : Qy h x o (m_X11_life x (J a) (J d) (J v) (J p) (J w) h) (m_X12_life o (J a) (J d) (J v) (J p) (J w)) := by
  obtain ⟨g, e, F, R⟩ := M.ref a0 a1
  unfold Qy m_X11_life m_X12_life
  rw [M.aN a0 a1, e]
  by_cases c : ndB S 0 a = true
  · rw [if_pos c, c]
    obtain ⟨C, D, W⟩ := M.arch c
    have RMg := R c
    have A := (M.wfA c).1
    have n0 := A.n0
    generalize x + 8 + 17 * a.toNat = o1 at *
    have Rc := R c
    generalize sT S a = T at *
    have hc := C.hasPlace d0 d1 v0 v1 p0 p1
    by_cases hv : vvT T d v
    · have hb := A.vb hv
      have hl := A.ln hv
      have hr := RMg.isVerT hv
      have p3 := RMg.longOf (d := d) (v := v) (by omega) (by omega)
      rw [vbT_iff.mpr hv, Bool.true_and] at hc
      by_cases hp : 0 ≤ p ∧ p < lnT T d v
      · have hp2 : ppT T d v p := ⟨hv, hp.1, hp.2⟩
        rw [decide_eq_true hp.1, decide_eq_true hp.2, Bool.true_and] at hc
        have ri := A.rw hp2
        have ei : m_X12_in (J p) (J 0) (J (lnT T d v - 1)) g = some (J 1) := X12_in_T (by omega) (by omega) (by omega)
        have ct := C.tokenAt hp2
        have rt := RMg.tokenAt (d := d) (v := v) (q := p) (by omega) (by omega) hp.1 (by omega)
        have cs := C.stayOf ri.1 ri.2.1
        have rs := RMg.whereIs ri.1 ri.2.1
        have s1 := stT_lt A ri.1 ri.2.1
        have s0 := st_pos A (d := d) ⟨ri.1, ri.2.1, ri.2.2⟩
        generalize stT T (rwT T d v p) = m at *
        generalize rwT T d v p = t at *
        generalize lnT T d v = ln at *
        by_cases c0 : w = 0
        · obtain ⟨y, pv, qv⟩ : ∃ y, m_X5_firstBit (J (m : Nat)) h = some (J y) ∧ m_X12_firstIn (J (m : Nat)) g = some (J y) := ⟨_, X5_firstBit_ok s1, X12_firstIn_ok s1 s0⟩
          refine ⟨y, g, ?_, ?_, F⟩
          · rw [c0]
            simp (disch := omega) only [rc_ok C.tag, hc, ct, cs, pv, bI, bN, cond_true, lm8, lm2, lm1, l0, l1, l2, l3, l4, l5, l6, l7, l8, l9, l10, l11, l12, l13, l14, l15, l16, l17, l18, l19, l20, l21, l22, l23, l24, l25, l27, l31, l32, l40, l46, l48, l50, l57, l59, l63, l86, l96, l97, l100, l110, l114, l122, l127, l200, l255, l300, l319, l320, l340, l441, l456, l580, l600, l800, l886, l1206, l1526, J_add, J_sub, J_mul, J_neg, J_lt, J_le, J_eq, jT, jF, iT, iF, eT, eF, aT, aF, ite_true, ite_false, ite_not, bs]
          · rw [c0]
            simp (disch := omega) only [rc_ok RMg.tag, hr, p3, ei, rt, rs, qv, bI, bN, cond_true, lm8, lm2, lm1, l0, l1, l2, l3, l4, l5, l6, l7, l8, l9, l10, l11, l12, l13, l14, l15, l16, l17, l18, l19, l20, l21, l22, l23, l24, l25, l27, l31, l32, l40, l46, l48, l50, l57, l59, l63, l86, l96, l97, l100, l110, l114, l122, l127, l200, l255, l300, l319, l320, l340, l441, l456, l580, l600, l800, l886, l1206, l1526, J_add, J_sub, J_mul, J_neg, J_lt, J_le, J_eq, jT, jF, iT, iF, eT, eF, aT, aF, ite_true, ite_false, ite_not, bs]
        · have c0' : w < 0 ∨ 0 < w := by omega
          by_cases c1 : w = 1
          · obtain ⟨y, pv, qv⟩ : ∃ y, m_X5_lastBit (J (m : Nat)) h = some (J y) ∧ m_X12_lastIn (J (m : Nat)) g = some (J y) := ⟨_, X5_lastBit_ok s1, X12_lastIn_ok s1⟩
            refine ⟨y, g, ?_, ?_, F⟩
            · rw [c1]
              simp (disch := omega) only [rc_ok C.tag, hc, ct, cs, pv, bI, bN, cond_true, lm8, lm2, lm1, l0, l1, l2, l3, l4, l5, l6, l7, l8, l9, l10, l11, l12, l13, l14, l15, l16, l17, l18, l19, l20, l21, l22, l23, l24, l25, l27, l31, l32, l40, l46, l48, l50, l57, l59, l63, l86, l96, l97, l100, l110, l114, l122, l127, l200, l255, l300, l319, l320, l340, l441, l456, l580, l600, l800, l886, l1206, l1526, J_add, J_sub, J_mul, J_neg, J_lt, J_le, J_eq, jT, jF, iT, iF, eT, eF, aT, aF, ite_true, ite_false, ite_not, bs]
            · rw [c1]
              simp (disch := omega) only [rc_ok RMg.tag, hr, p3, ei, rt, rs, qv, bI, bN, cond_true, lm8, lm2, lm1, l0, l1, l2, l3, l4, l5, l6, l7, l8, l9, l10, l11, l12, l13, l14, l15, l16, l17, l18, l19, l20, l21, l22, l23, l24, l25, l27, l31, l32, l40, l46, l48, l50, l57, l59, l63, l86, l96, l97, l100, l110, l114, l122, l127, l200, l255, l300, l319, l320, l340, l441, l456, l580, l600, l800, l886, l1206, l1526, J_add, J_sub, J_mul, J_neg, J_lt, J_le, J_eq, jT, jF, iT, iF, eT, eF, aT, aF, ite_true, ite_false, ite_not, bs]
          · have c1' : w < 1 ∨ 1 < w := by omega
            by_cases c2 : w = 2
            · obtain ⟨y, pv, qv⟩ : ∃ y, m_J6_bitCount_0f7a4 (J (m : Nat)) h = some (J y) ∧ m_X12_ones (J (m : Nat)) g = some (J y) := ⟨_, J6_bitCount_ok s1, X12_ones_ok s1⟩
              refine ⟨y, g, ?_, ?_, F⟩
              · rw [c2]
                simp (disch := omega) only [rc_ok C.tag, hc, ct, cs, pv, bI, bN, cond_true, lm8, lm2, lm1, l0, l1, l2, l3, l4, l5, l6, l7, l8, l9, l10, l11, l12, l13, l14, l15, l16, l17, l18, l19, l20, l21, l22, l23, l24, l25, l27, l31, l32, l40, l46, l48, l50, l57, l59, l63, l86, l96, l97, l100, l110, l114, l122, l127, l200, l255, l300, l319, l320, l340, l441, l456, l580, l600, l800, l886, l1206, l1526, J_add, J_sub, J_mul, J_neg, J_lt, J_le, J_eq, jT, jF, iT, iF, eT, eF, aT, aF, ite_true, ite_false, ite_not, bs]
              · rw [c2]
                simp (disch := omega) only [rc_ok RMg.tag, hr, p3, ei, rt, rs, qv, bI, bN, cond_true, lm8, lm2, lm1, l0, l1, l2, l3, l4, l5, l6, l7, l8, l9, l10, l11, l12, l13, l14, l15, l16, l17, l18, l19, l20, l21, l22, l23, l24, l25, l27, l31, l32, l40, l46, l48, l50, l57, l59, l63, l86, l96, l97, l100, l110, l114, l122, l127, l200, l255, l300, l319, l320, l340, l441, l456, l580, l600, l800, l886, l1206, l1526, J_add, J_sub, J_mul, J_neg, J_lt, J_le, J_eq, jT, jF, iT, iF, eT, eF, aT, aF, ite_true, ite_false, ite_not, bs]
            · have c2' : w < 2 ∨ 2 < w := by omega
              by_cases c3 : w = 3
              · obtain ⟨y, pv, qv⟩ : ∃ y, m_X5_runs (J (m : Nat)) h = some (J y) ∧ m_X12_rowsIn (J (m : Nat)) g = some (J y) := ⟨_, X5_runs_ok s1, X12_rowsIn_ok s1⟩
                refine ⟨y, g, ?_, ?_, F⟩
                · rw [c3]
                  simp (disch := omega) only [rc_ok C.tag, hc, ct, cs, pv, bI, bN, cond_true, lm8, lm2, lm1, l0, l1, l2, l3, l4, l5, l6, l7, l8, l9, l10, l11, l12, l13, l14, l15, l16, l17, l18, l19, l20, l21, l22, l23, l24, l25, l27, l31, l32, l40, l46, l48, l50, l57, l59, l63, l86, l96, l97, l100, l110, l114, l122, l127, l200, l255, l300, l319, l320, l340, l441, l456, l580, l600, l800, l886, l1206, l1526, J_add, J_sub, J_mul, J_neg, J_lt, J_le, J_eq, jT, jF, iT, iF, eT, eF, aT, aF, ite_true, ite_false, ite_not, bs]
                · rw [c3]
                  simp (disch := omega) only [rc_ok RMg.tag, hr, p3, ei, rt, rs, qv, bI, bN, cond_true, lm8, lm2, lm1, l0, l1, l2, l3, l4, l5, l6, l7, l8, l9, l10, l11, l12, l13, l14, l15, l16, l17, l18, l19, l20, l21, l22, l23, l24, l25, l27, l31, l32, l40, l46, l48, l50, l57, l59, l63, l86, l96, l97, l100, l110, l114, l122, l127, l200, l255, l300, l319, l320, l340, l441, l456, l580, l600, l800, l886, l1206, l1526, J_add, J_sub, J_mul, J_neg, J_lt, J_le, J_eq, jT, jF, iT, iF, eT, eF, aT, aF, ite_true, ite_false, ite_not, bs]
              · have c3' : w < 3 ∨ 3 < w := by omega
                refine ⟨-1, g, ?_, ?_, F⟩
                · simp (disch := first | omega | assumption) only [rc_ok C.tag, hc, ct, cs, lm1, bI, bN, cond_true, lm8, lm2, lm1, l0, l1, l2, l3, l4, l5, l6, l7, l8, l9, l10, l11, l12, l13, l14, l15, l16, l17, l18, l19, l20, l21, l22, l23, l24, l25, l27, l31, l32, l40, l46, l48, l50, l57, l59, l63, l86, l96, l97, l100, l110, l114, l122, l127, l200, l255, l300, l319, l320, l340, l441, l456, l580, l600, l800, l886, l1206, l1526, J_add, J_sub, J_mul, J_neg, J_lt, J_le, J_eq, jT, jF, iT, iF, eT, eF, aT, aF, ite_true, ite_false, ite_not, bs]
                · simp (disch := first | omega | assumption) only [rc_ok RMg.tag, hr, p3, ei, rt, rs, lm1, bI, bN, cond_true, lm8, lm2, lm1, l0, l1, l2, l3, l4, l5, l6, l7, l8, l9, l10, l11, l12, l13, l14, l15, l16, l17, l18, l19, l20, l21, l22, l23, l24, l25, l27, l31, l32, l40, l46, l48, l50, l57, l59, l63, l86, l96, l97, l100, l110, l114, l122, l127, l200, l255, l300, l319, l320, l340, l441, l456, l580, l600, l800, l886, l1206, l1526, J_add, J_sub, J_mul, J_neg, J_lt, J_le, J_eq, jT, jF, iT, iF, eT, eF, aT, aF, ite_true, ite_false, ite_not, bs]
      · have hf : (decide (0 ≤ p) && decide (p < lnT T d v)) = false := by
          cases q : (decide (0 ≤ p) && decide (p < lnT T d v))
          · rfl
          · exfalso
            have := (Bool.and_eq_true _ _).mp q
            exact hp ⟨of_decide_eq_true this.1, of_decide_eq_true this.2⟩
        rw [hf] at hc
        have ei : m_X12_in (J p) (J 0) (J (lnT T d v - 1)) g = some (J 0) := X12_in_F (by omega) (by omega) (by omega) (by omega)
        generalize lnT T d v = ln at *
        refine ⟨-1, g, ?_, ?_, F⟩
        · simp (disch := omega) only [rc_ok C.tag, hc, lm1, bI, bN, cond_false, lm8, lm2, lm1, l0, l1, l2, l3, l4, l5, l6, l7, l8, l9, l10, l11, l12, l13, l14, l15, l16, l17, l18, l19, l20, l21, l22, l23, l24, l25, l27, l31, l32, l40, l46, l48, l50, l57, l59, l63, l86, l96, l97, l100, l110, l114, l122, l127, l200, l255, l300, l319, l320, l340, l441, l456, l580, l600, l800, l886, l1206, l1526, J_add, J_sub, J_mul, J_neg, J_lt, J_le, J_eq, jT, jF, iT, iF, eT, eF, aT, aF, ite_true, ite_false, ite_not, bs]
        · simp (disch := omega) only [rc_ok RMg.tag, hr, p3, ei, lm1, bI, bN, cond_true, lm8, lm2, lm1, l0, l1, l2, l3, l4, l5, l6, l7, l8, l9, l10, l11, l12, l13, l14, l15, l16, l17, l18, l19, l20, l21, l22, l23, l24, l25, l27, l31, l32, l40, l46, l48, l50, l57, l59, l63, l86, l96, l97, l100, l110, l114, l122, l127, l200, l255, l300, l319, l320, l340, l441, l456, l580, l600, l800, l886, l1206, l1526, J_add, J_sub, J_mul, J_neg, J_lt, J_le, J_eq, jT, jF, iT, iF, eT, eF, aT, aF, ite_true, ite_false, ite_not, bs]
    · have hf : vbT T d v = false := by
        cases q : vbT T d v
        · rfl
        · exact absurd (vbT_iff.mp q) hv
      rw [hf, Bool.false_and] at hc
      have hr := RMg.isVerF hv d0 d1 v0 v1
      refine ⟨-1, g, ?_, ?_, F⟩
      · simp (disch := omega) only [rc_ok C.tag, hc, lm1, bI, bN, cond_false, lm8, lm2, lm1, l0, l1, l2, l3, l4, l5, l6, l7, l8, l9, l10, l11, l12, l13, l14, l15, l16, l17, l18, l19, l20, l21, l22, l23, l24, l25, l27, l31, l32, l40, l46, l48, l50, l57, l59, l63, l86, l96, l97, l100, l110, l114, l122, l127, l200, l255, l300, l319, l320, l340, l441, l456, l580, l600, l800, l886, l1206, l1526, J_add, J_sub, J_mul, J_neg, J_lt, J_le, J_eq, jT, jF, iT, iF, eT, eF, aT, aF, ite_true, ite_false, ite_not, bs]
      · simp (disch := omega) only [rc_ok RMg.tag, hr, lm1, bI, bN, cond_true, lm8, lm2, lm1, l0, l1, l2, l3, l4, l5, l6, l7, l8, l9, l10, l11, l12, l13, l14, l15, l16, l17, l18, l19, l20, l21, l22, l23, l24, l25, l27, l31, l32, l40, l46, l48, l50, l57, l59, l63, l86, l96, l97, l100, l110, l114, l122, l127, l200, l255, l300, l319, l320, l340, l441, l456, l580, l600, l800, l886, l1206, l1526, J_add, J_sub, J_mul, J_neg, J_lt, J_le, J_eq, jT, jF, iT, iF, eT, eF, aT, aF, ite_true, ite_false, ite_not, bs]
  · have c' : ndB S 0 a = false := by simpa using c
    rw [if_neg c, c']
    exact ⟨-1, g, rfl, if_pos rfl, F⟩
theorem SBo.dated (M : SBo h x o S) {d : Int} (a0 : -2147483648 ≤ a) (a1 : a < 2147483648) (d0 : -2147483648 ≤ d) (d1 : d < 2147483648) : Qy h x o (m_X11_dated x (J a) (J d) h) (m_X12_dated o (J a) (J d)) := by
  obtain ⟨g, e, F, R⟩ := M.ref a0 a1
  unfold Qy m_X11_dated m_X12_dated
  rw [M.aP a0 a1, e]
  by_cases c : ndB S 0 a = true
  · rw [if_pos c, c]
    obtain ⟨C, D, W⟩ := M.arch c
    have RMg := R c
    have hx := M.hi.1
    have p1 := C.documentOfDate D (x := x + 66) d0 d1
    have p2 := RMg.datedLoop (M.wfA c).2.1 d0 d1
    refine ⟨_, g, ?_, (if_pos (show ¬ (J 1 : Int32) = J 0 by decide)).trans p2, F⟩
    rw [M.r3, bs, rc_ok hx, p1, bs]
    rfl
  · have c' : ndB S 0 a = false := by simpa using c
    rw [if_neg c, c']
    exact ⟨-1, g, rfl, if_neg (fun q => q rfl), F⟩
theorem SBo.shared (M : SBo h x o S) {d v w : Int} (a0 : -2147483648 ≤ a) (a1 : a < 2147483648) (d0 : -2147483648 ≤ d) (d1 : d < 2147483648) (v0 : -2147483648 ≤ v) (v1 : v < 2147483648) (w0 : -2147483648 ≤ w) (w1 : w < 2147483648) : Qy h x o (m_X11_shared x (J a) (J d) (J v) (J w) h) (m_X12_shared o (J a) (J d) (J v) (J w)) := by
  obtain ⟨g, e, F, R⟩ := M.ref a0 a1
  unfold Qy m_X11_shared m_X12_shared
  rw [M.aN a0 a1, e]
  by_cases c : ndB S 0 a = true
  · rw [if_pos c, c]
    obtain ⟨C, D, W⟩ := M.arch c
    have RMg := R c
    have hx := M.hi.1
    generalize x + 8 + 17 * a.toNat = o1 at *
    have Rc := R c
    generalize sT S a = T at *
    by_cases hv : vvT T d v
    · have hc := C.hasVerT hv
      have hr := RMg.isVerT hv
      by_cases hw : vvT T d w
      · have hc2 := C.hasVerT hw
        have hr2 := RMg.isVerT hw
        obtain ⟨y, pv, qv⟩ : ∃ y, m_X2_inBoth (x + 66) o1 (J d) (J v) (J w) h = some (J y) ∧ l_X12_shared_40 o (J d) (J v) (J w) g (J 0) (J 0) = some (J y, g) := ⟨_, C.inBoth hv hw, RMg.sharedLoop hv hw⟩
        refine ⟨y, g, ?_, ?_, F⟩
        · simp (disch := omega) only [rc_ok C.tag, hc, hc2, M.r3, rc_ok hx, pv, lm8, lm2, lm1, l0, l1, l2, l3, l4, l5, l6, l7, l8, l9, l10, l11, l12, l13, l14, l15, l16, l17, l18, l19, l20, l21, l22, l23, l24, l25, l27, l31, l32, l40, l46, l48, l50, l57, l59, l63, l86, l96, l97, l100, l110, l114, l122, l127, l200, l255, l300, l319, l320, l340, l441, l456, l580, l600, l800, l886, l1206, l1526, J_add, J_sub, J_mul, J_neg, J_lt, J_le, J_eq, jT, jF, iT, iF, eT, eF, aT, aF, ite_true, ite_false, ite_not, bs]
        · simp (disch := omega) only [rc_ok RMg.tag, hr, hr2, qv, bI, bN, cond_true, lm8, lm2, lm1, l0, l1, l2, l3, l4, l5, l6, l7, l8, l9, l10, l11, l12, l13, l14, l15, l16, l17, l18, l19, l20, l21, l22, l23, l24, l25, l27, l31, l32, l40, l46, l48, l50, l57, l59, l63, l86, l96, l97, l100, l110, l114, l122, l127, l200, l255, l300, l319, l320, l340, l441, l456, l580, l600, l800, l886, l1206, l1526, J_add, J_sub, J_mul, J_neg, J_lt, J_le, J_eq, jT, jF, iT, iF, eT, eF, aT, aF, ite_true, ite_false, ite_not, bs]
      · have hc2 := C.hasVerF hw d0 d1 w0 w1
        have hr2 := RMg.isVerF hw d0 d1 w0 w1
        refine ⟨-1, g, ?_, ?_, F⟩
        · simp (disch := omega) only [rc_ok C.tag, hc, hc2, lm1, lm8, lm2, lm1, l0, l1, l2, l3, l4, l5, l6, l7, l8, l9, l10, l11, l12, l13, l14, l15, l16, l17, l18, l19, l20, l21, l22, l23, l24, l25, l27, l31, l32, l40, l46, l48, l50, l57, l59, l63, l86, l96, l97, l100, l110, l114, l122, l127, l200, l255, l300, l319, l320, l340, l441, l456, l580, l600, l800, l886, l1206, l1526, J_add, J_sub, J_mul, J_neg, J_lt, J_le, J_eq, jT, jF, iT, iF, eT, eF, aT, aF, ite_true, ite_false, ite_not, bs]
        · simp (disch := omega) only [rc_ok RMg.tag, hr, hr2, lm1, bI, bN, cond_true, lm8, lm2, lm1, l0, l1, l2, l3, l4, l5, l6, l7, l8, l9, l10, l11, l12, l13, l14, l15, l16, l17, l18, l19, l20, l21, l22, l23, l24, l25, l27, l31, l32, l40, l46, l48, l50, l57, l59, l63, l86, l96, l97, l100, l110, l114, l122, l127, l200, l255, l300, l319, l320, l340, l441, l456, l580, l600, l800, l886, l1206, l1526, J_add, J_sub, J_mul, J_neg, J_lt, J_le, J_eq, jT, jF, iT, iF, eT, eF, aT, aF, ite_true, ite_false, ite_not, bs]
    · have hc := C.hasVerF hv d0 d1 v0 v1
      have hr := RMg.isVerF hv d0 d1 v0 v1
      refine ⟨-1, g, ?_, ?_, F⟩
      · simp (disch := omega) only [rc_ok C.tag, hc, lm1, lm8, lm2, lm1, l0, l1, l2, l3, l4, l5, l6, l7, l8, l9, l10, l11, l12, l13, l14, l15, l16, l17, l18, l19, l20, l21, l22, l23, l24, l25, l27, l31, l32, l40, l46, l48, l50, l57, l59, l63, l86, l96, l97, l100, l110, l114, l122, l127, l200, l255, l300, l319, l320, l340, l441, l456, l580, l600, l800, l886, l1206, l1526, J_add, J_sub, J_mul, J_neg, J_lt, J_le, J_eq, jT, jF, iT, iF, eT, eF, aT, aF, ite_true, ite_false, ite_not, bs]
      · simp (disch := omega) only [rc_ok RMg.tag, hr, lm1, bI, bN, cond_true, lm8, lm2, lm1, l0, l1, l2, l3, l4, l5, l6, l7, l8, l9, l10, l11, l12, l13, l14, l15, l16, l17, l18, l19, l20, l21, l22, l23, l24, l25, l27, l31, l32, l40, l46, l48, l50, l57, l59, l63, l86, l96, l97, l100, l110, l114, l122, l127, l200, l255, l300, l319, l320, l340, l441, l456, l580, l600, l800, l886, l1206, l1526, J_add, J_sub, J_mul, J_neg, J_lt, J_le, J_eq, jT, jF, iT, iF, eT, eF, aT, aF, ite_true, ite_false, ite_not, bs]
  · have c' : ndB S 0 a = false := by simpa using c
    rw [if_neg c, c']
    exact ⟨-1, g, rfl, if_pos rfl, F⟩
theorem SBo.common (M : SBo h x o S) {d v b w : Int} (a0 : -2147483648 ≤ a) (a1 : a < 2147483648) (d0 : -2147483648 ≤ d) (d1 : d < 2147483648) (v0 : -2147483648 ≤ v) (v1 : v < 2147483648) (b0 : -2147483648 ≤ b) (b1 : b < 2147483648) (w0 : -2147483648 ≤ w) (w1 : w < 2147483648) : Qh h x o (m_X11_common x (J a) (J d) (J v) (J b) (J w) h) (m_X12_common o (J a) (J d) (J v) (J b) (J w)) := by
  have pre : ∀ h1, FR (Asc x o) h h1 → SBo h1 x o S := fun h1 F => M.frame F
  have n2 := M.2.2.2.1.2.2.1 0 (by omega) (by omega)
  have xo := M.2.2.2.2.1
  unfold Qh m_X11_common
  rw [M.aN a0 a1]
  by_cases c : ndB S 0 a = true
  · have q : 0 ≤ a ∧ a < sN S 0 := of_decide_eq_true c
    rw [if_pos c]
    obtain ⟨C, D, W⟩ := M.arch c
    have hx := M.hi
    have ho1 : x + 66 + 1 < x + 8 + 17 * a.toNat ∨ x + 8 + 17 * a.toNat + 9 < x + 66 + 1 := by omega
    generalize x + 8 + 17 * a.toNat = o1 at *
    by_cases hv : vvT (sT S a) d v
    · have hc := C.hasVerT hv
      by_cases hw : vvT (sT S a) b w
      · have hc2 := C.hasVerT hw
        obtain ⟨h1, e1, F1⟩ := C.longestRow hx ho1 hv hw
        have F1' : FR (Asc x o) h h1 := F1.mono (fun b k q => by unfold AHr at q; unfold Asc; omega)
        obtain ⟨g, e, F, R⟩ := (pre h1 F1').ref a0 a1
        have RMg := R c
        obtain ⟨h2, e2, F2⟩ := RMg.commonLoop hv hw
        have hr := RMg.isVerT hv
        have hr2 := RMg.isVerT hw
        generalize lcT (sT S a) d v b w (lnT (sT S a) d v) (lnT (sT S a) b w) = y at *
        refine ⟨y, h1, h2, ?_, ?_, (F1'.trans F).trans (F2.mono (fun b k q => by unfold AC2 at q; unfold Asc; omega)), F1'⟩
        · simp (disch := omega) only [rc_ok C.tag, hc, hc2, M.r3, rc_ok hx.1, e1, lm8, lm2, lm1, l0, l1, l2, l3, l4, l5, l6, l7, l8, l9, l10, l11, l12, l13, l14, l15, l16, l17, l18, l19, l20, l21, l22, l23, l24, l25, l27, l31, l32, l40, l46, l48, l50, l57, l59, l63, l86, l96, l97, l100, l110, l114, l122, l127, l200, l255, l300, l319, l320, l340, l441, l456, l580, l600, l800, l886, l1206, l1526, J_add, J_sub, J_mul, J_neg, J_lt, J_le, J_eq, jT, jF, iT, iF, eT, eF, aT, aF, ite_true, ite_false, ite_not, bs]
        · unfold m_X12_common
          rw [e, c]
          simp (disch := omega) only [rc_ok RMg.tag, hr, hr2, e2, bI, bN, cond_true, lm8, lm2, lm1, l0, l1, l2, l3, l4, l5, l6, l7, l8, l9, l10, l11, l12, l13, l14, l15, l16, l17, l18, l19, l20, l21, l22, l23, l24, l25, l27, l31, l32, l40, l46, l48, l50, l57, l59, l63, l86, l96, l97, l100, l110, l114, l122, l127, l200, l255, l300, l319, l320, l340, l441, l456, l580, l600, l800, l886, l1206, l1526, J_add, J_sub, J_mul, J_neg, J_lt, J_le, J_eq, jT, jF, iT, iF, eT, eF, aT, aF, ite_true, ite_false, ite_not, bs]
      · have hc2 := C.hasVerF hw b0 b1 w0 w1
        obtain ⟨g, e, F, R⟩ := M.ref a0 a1
        have RMg := R c
        have hr := RMg.isVerT hv
        have hr2 := RMg.isVerF hw b0 b1 w0 w1
        refine ⟨-1, h, g, ?_, ?_, F, FR.refl _ _⟩
        · simp (disch := omega) only [rc_ok C.tag, hc, hc2, lm1, lm8, lm2, lm1, l0, l1, l2, l3, l4, l5, l6, l7, l8, l9, l10, l11, l12, l13, l14, l15, l16, l17, l18, l19, l20, l21, l22, l23, l24, l25, l27, l31, l32, l40, l46, l48, l50, l57, l59, l63, l86, l96, l97, l100, l110, l114, l122, l127, l200, l255, l300, l319, l320, l340, l441, l456, l580, l600, l800, l886, l1206, l1526, J_add, J_sub, J_mul, J_neg, J_lt, J_le, J_eq, jT, jF, iT, iF, eT, eF, aT, aF, ite_true, ite_false, ite_not, bs]
        · unfold m_X12_common
          rw [e, c]
          simp (disch := omega) only [rc_ok RMg.tag, hr, hr2, lm1, bI, bN, cond_true, lm8, lm2, lm1, l0, l1, l2, l3, l4, l5, l6, l7, l8, l9, l10, l11, l12, l13, l14, l15, l16, l17, l18, l19, l20, l21, l22, l23, l24, l25, l27, l31, l32, l40, l46, l48, l50, l57, l59, l63, l86, l96, l97, l100, l110, l114, l122, l127, l200, l255, l300, l319, l320, l340, l441, l456, l580, l600, l800, l886, l1206, l1526, J_add, J_sub, J_mul, J_neg, J_lt, J_le, J_eq, jT, jF, iT, iF, eT, eF, aT, aF, ite_true, ite_false, ite_not, bs]
    · have hc := C.hasVerF hv d0 d1 v0 v1
      obtain ⟨g, e, F, R⟩ := M.ref a0 a1
      have RMg := R c
      have hr := RMg.isVerF hv d0 d1 v0 v1
      refine ⟨-1, h, g, ?_, ?_, F, FR.refl _ _⟩
      · simp (disch := omega) only [rc_ok C.tag, hc, lm1, lm8, lm2, lm1, l0, l1, l2, l3, l4, l5, l6, l7, l8, l9, l10, l11, l12, l13, l14, l15, l16, l17, l18, l19, l20, l21, l22, l23, l24, l25, l27, l31, l32, l40, l46, l48, l50, l57, l59, l63, l86, l96, l97, l100, l110, l114, l122, l127, l200, l255, l300, l319, l320, l340, l441, l456, l580, l600, l800, l886, l1206, l1526, J_add, J_sub, J_mul, J_neg, J_lt, J_le, J_eq, jT, jF, iT, iF, eT, eF, aT, aF, ite_true, ite_false, ite_not, bs]
      · unfold m_X12_common
        rw [e, c]
        simp (disch := omega) only [rc_ok RMg.tag, hr, lm1, bI, bN, cond_true, lm8, lm2, lm1, l0, l1, l2, l3, l4, l5, l6, l7, l8, l9, l10, l11, l12, l13, l14, l15, l16, l17, l18, l19, l20, l21, l22, l23, l24, l25, l27, l31, l32, l40, l46, l48, l50, l57, l59, l63, l86, l96, l97, l100, l110, l114, l122, l127, l200, l255, l300, l319, l320, l340, l441, l456, l580, l600, l800, l886, l1206, l1526, J_add, J_sub, J_mul, J_neg, J_lt, J_le, J_eq, jT, jF, iT, iF, eT, eF, aT, aF, ite_true, ite_false, ite_not, bs]
  · have c' : ndB S 0 a = false := by simpa using c
    obtain ⟨g, e, F, R⟩ := M.ref a0 a1
    rw [if_neg c]
    refine ⟨-1, h, g, rfl, ?_, F, FR.refl _ _⟩
    unfold m_X12_common
    rw [e, c']
    exact if_pos rfl
theorem SBo.word (M : SBo h x o S) {k w : Int} (a0 : -2147483648 ≤ a) (a1 : a < 2147483648) (k0 : -2147483648 ≤ k) (k1 : k < 2147483648) (w0 : -2147483648 ≤ w) (w1 : w < 2147483648) : Qy h x o (m_X11_word x (J a) (J k) (J w) h) (m_X12_word o (J a) (J k) (J w)) := by
  obtain ⟨g, e, F, R⟩ := M.ref a0 a1
  unfold Qy m_X11_word m_X12_word
  rw [M.aN a0 a1, e]
  by_cases c : ndB S 0 a = true
  · rw [if_pos c, c]
    obtain ⟨C, D, W⟩ := M.arch c
    have RMg := R c
    have wf := M.wfA c
    have A := wf.1
    have hx := M.hi.1
    generalize x + 8 + 17 * a.toNat = o1 at *
    have Rc := R c
    generalize sT S a = T at *
    obtain ⟨g2, e2, F2, W2⟩ := RMg.layWords
    have F2' : FR (Asc x o) h g2 := F.trans (F2.mono (fun b k q => by unfold ALw at q; unfold Asc; omega))
    have RM2 := RMg.frW F2
    have f25 : gfI g2 o 12 25 = some (J (wcT T)) := by
      rw [gfI_ok RM2.tag]
      exact congrArg (fun z => some (J z)) W2.1
    have wc := wc_rg A
    have hw := C.hasWord W k0 k1
    by_cases hk : 0 ≤ k ∧ k < wcT T
    · rw [decide_eq_true hk.1, decide_eq_true hk.2, Bool.true_and] at hw
      have ei : m_X12_in (J k) (J 0) (J (wcT T - 1)) g2 = some (J 1) := X12_in_T (by omega) (by omega) (by omega)
      have al : alI g2 (o + 12) (J k) = some (J (wfT T k)) := by
        rw [alI_ok RM2.1.a26 hk.1 (by omega) (by omega)]
        exact congrArg (fun z => some (J z)) (W2.2 k hk.1 hk.2)
      have wr := wfT_wrg A hk.1 hk.2
      have wr2 : -2147483648 ≤ wfT T k ∧ wfT T k < 2147483648 := by
        unfold wrg at wr
        omega
      have ow := RM2.ofWord wf.2.1 (w := wfT T k) (a := w) wr2.1 wr2.2 w0 w1
      have sl := C.slotsOfWord W hk.1 hk.2
      have wa := C.wordAt W hk.1 hk.2
      have ref : ∀ y : Int, m_X12_ofWord o (J (wfT T k)) (J w) g2 = some (J y) → (if ¬ (J (b01 true), g).1 = 0 then ((rc (J (b01 true), g).2 o 12 (m_X12_layWords o (J (b01 true), g).2)).bind fun x2 => (gfI x2 o 12 25).bind fun x3 => (m_X12_in (J k) (0 : Int32) (x3 - (1 : Int32)) x2).bind fun x4 => if x4 = 0 then j_X12_word_48 (-1 : Int32) x2 else (gfR x2 o 12 26).bind fun x5 => (alI x2 x5 (J k)).bind fun x6 => (rc x2 o 12 (m_X12_ofWord o x6 (J w) x2)).bind fun x7 => j_X12_word_48 x7 x2) else some ((-1 : Int32), (J (b01 true), g).2)) = some (J y, g2) := fun y hy => by
        generalize wfT T k = wf_ at *
        simp (disch := omega) only [rc_ok RMg.tag, e2, f25, ei, RM2.1.r26, al, rc_ok RM2.tag, hy, j_X12_word_48, bI, bN, cond_true, lm8, lm2, lm1, l0, l1, l2, l3, l4, l5, l6, l7, l8, l9, l10, l11, l12, l13, l14, l15, l16, l17, l18, l19, l20, l21, l22, l23, l24, l25, l27, l31, l32, l40, l46, l48, l50, l57, l59, l63, l86, l96, l97, l100, l110, l114, l122, l127, l200, l255, l300, l319, l320, l340, l441, l456, l580, l600, l800, l886, l1206, l1526, J_add, J_sub, J_mul, J_neg, J_lt, J_le, J_eq, jT, jF, iT, iF, eT, eF, aT, aF, ite_true, ite_false, ite_not, bs]
      by_cases c0 : w = 0
      · rw [if_pos c0] at ow
        refine ⟨wfT T k, g2, ?_, ref _ ow, F2'⟩
        rw [c0]
        have wn := X5_wordNumber_ok (h := h) wr
        simp (disch := omega) only [rc_ok C.tag, hw, wa, wn, bI, bN, cond_true, lm8, lm2, lm1, l0, l1, l2, l3, l4, l5, l6, l7, l8, l9, l10, l11, l12, l13, l14, l15, l16, l17, l18, l19, l20, l21, l22, l23, l24, l25, l27, l31, l32, l40, l46, l48, l50, l57, l59, l63, l86, l96, l97, l100, l110, l114, l122, l127, l200, l255, l300, l319, l320, l340, l441, l456, l580, l600, l800, l886, l1206, l1526, J_add, J_sub, J_mul, J_neg, J_lt, J_le, J_eq, jT, jF, iT, iF, eT, eF, aT, aF, ite_true, ite_false, ite_not, bs]
      · have c0' : w < 0 ∨ 0 < w := by omega
        rw [if_neg c0] at ow
        by_cases c1 : w = 1
        · rw [if_pos c1] at ow
          refine ⟨_, g2, ?_, ref _ ow, F2'⟩
          rw [c1]
          have bc := J13_bitCount_ok (h := h) (slT_lt A (wfT T k))
          simp (disch := omega) only [rc_ok C.tag, hw, sl, bc, bI, bN, cond_true, lm8, lm2, lm1, l0, l1, l2, l3, l4, l5, l6, l7, l8, l9, l10, l11, l12, l13, l14, l15, l16, l17, l18, l19, l20, l21, l22, l23, l24, l25, l27, l31, l32, l40, l46, l48, l50, l57, l59, l63, l86, l96, l97, l100, l110, l114, l122, l127, l200, l255, l300, l319, l320, l340, l441, l456, l580, l600, l800, l886, l1206, l1526, J_add, J_sub, J_mul, J_neg, J_lt, J_le, J_eq, jT, jF, iT, iF, eT, eF, aT, aF, ite_true, ite_false, ite_not, bs]
        · have c1' : w < 1 ∨ 1 < w := by omega
          rw [if_neg c1] at ow
          by_cases c2 : w = 2
          · rw [if_pos c2] at ow
            refine ⟨_, g2, ?_, ref _ ow, F2'⟩
            rw [c2]
            have bc := C.documentsOfWord W (x := x + 66) hk.1 hk.2
            simp (disch := omega) only [rc_ok C.tag, hw, M.r3, rc_ok hx, bc, bI, bN, cond_true, lm8, lm2, lm1, l0, l1, l2, l3, l4, l5, l6, l7, l8, l9, l10, l11, l12, l13, l14, l15, l16, l17, l18, l19, l20, l21, l22, l23, l24, l25, l27, l31, l32, l40, l46, l48, l50, l57, l59, l63, l86, l96, l97, l100, l110, l114, l122, l127, l200, l255, l300, l319, l320, l340, l441, l456, l580, l600, l800, l886, l1206, l1526, J_add, J_sub, J_mul, J_neg, J_lt, J_le, J_eq, jT, jF, iT, iF, eT, eF, aT, aF, ite_true, ite_false, ite_not, bs]
          · have c2' : w < 2 ∨ 2 < w := by omega
            rw [if_neg c2] at ow
            by_cases c3 : w = 3
            · rw [if_pos c3, if_neg (md_some A wf.2.1 hk.1 hk.2)] at ow
              refine ⟨_, g2, ?_, ref _ ow, F2'⟩
              rw [c3]
              have bc := C.firstDateOfWord D W (x := x + 66) hk.1 hk.2
              simp (disch := omega) only [rc_ok C.tag, hw, M.r3, rc_ok hx, bc, bI, bN, cond_true, lm8, lm2, lm1, l0, l1, l2, l3, l4, l5, l6, l7, l8, l9, l10, l11, l12, l13, l14, l15, l16, l17, l18, l19, l20, l21, l22, l23, l24, l25, l27, l31, l32, l40, l46, l48, l50, l57, l59, l63, l86, l96, l97, l100, l110, l114, l122, l127, l200, l255, l300, l319, l320, l340, l441, l456, l580, l600, l800, l886, l1206, l1526, J_add, J_sub, J_mul, J_neg, J_lt, J_le, J_eq, jT, jF, iT, iF, eT, eF, aT, aF, ite_true, ite_false, ite_not, bs]
            · have c3' : w < 3 ∨ 3 < w := by omega
              rw [if_neg c3] at ow
              by_cases c4 : w = 4
              · rw [if_pos c4] at ow
                refine ⟨_, g2, ?_, ref _ ow, F2'⟩
                rw [c4]
                have bc := C.spread W (x := x + 66) hk.1 hk.2
                simp (disch := omega) only [rc_ok C.tag, hw, M.r3, rc_ok hx, bc, bI, bN, cond_true, lm8, lm2, lm1, l0, l1, l2, l3, l4, l5, l6, l7, l8, l9, l10, l11, l12, l13, l14, l15, l16, l17, l18, l19, l20, l21, l22, l23, l24, l25, l27, l31, l32, l40, l46, l48, l50, l57, l59, l63, l86, l96, l97, l100, l110, l114, l122, l127, l200, l255, l300, l319, l320, l340, l441, l456, l580, l600, l800, l886, l1206, l1526, J_add, J_sub, J_mul, J_neg, J_lt, J_le, J_eq, jT, jF, iT, iF, eT, eF, aT, aF, ite_true, ite_false, ite_not, bs]
              · have c4' : w < 4 ∨ 4 < w := by omega
                rw [if_neg c4] at ow
                refine ⟨-1, g2, ?_, ref _ ow, F2'⟩
                simp (disch := first | omega | assumption) only [rc_ok C.tag, hw, lm1, bI, bN, cond_true, lm8, lm2, lm1, l0, l1, l2, l3, l4, l5, l6, l7, l8, l9, l10, l11, l12, l13, l14, l15, l16, l17, l18, l19, l20, l21, l22, l23, l24, l25, l27, l31, l32, l40, l46, l48, l50, l57, l59, l63, l86, l96, l97, l100, l110, l114, l122, l127, l200, l255, l300, l319, l320, l340, l441, l456, l580, l600, l800, l886, l1206, l1526, J_add, J_sub, J_mul, J_neg, J_lt, J_le, J_eq, jT, jF, iT, iF, eT, eF, aT, aF, ite_true, ite_false, ite_not, bs]
    · have hf : (decide (0 ≤ k) && decide (k < wcT T)) = false := by
        cases q : (decide (0 ≤ k) && decide (k < wcT T))
        · rfl
        · exfalso
          have := (Bool.and_eq_true _ _).mp q
          exact hk ⟨of_decide_eq_true this.1, of_decide_eq_true this.2⟩
      rw [hf] at hw
      have ei : m_X12_in (J k) (J 0) (J (wcT T - 1)) g2 = some (J 0) := X12_in_F (by omega) (by omega) (by omega) (by omega)
      refine ⟨-1, g2, ?_, ?_, F2'⟩
      · simp (disch := omega) only [rc_ok C.tag, hw, lm1, bI, bN, cond_false, lm8, lm2, lm1, l0, l1, l2, l3, l4, l5, l6, l7, l8, l9, l10, l11, l12, l13, l14, l15, l16, l17, l18, l19, l20, l21, l22, l23, l24, l25, l27, l31, l32, l40, l46, l48, l50, l57, l59, l63, l86, l96, l97, l100, l110, l114, l122, l127, l200, l255, l300, l319, l320, l340, l441, l456, l580, l600, l800, l886, l1206, l1526, J_add, J_sub, J_mul, J_neg, J_lt, J_le, J_eq, jT, jF, iT, iF, eT, eF, aT, aF, ite_true, ite_false, ite_not, bs]
      · simp (disch := omega) only [rc_ok RMg.tag, e2, f25, ei, j_X12_word_48, lm1, bI, bN, cond_true, lm8, lm2, lm1, l0, l1, l2, l3, l4, l5, l6, l7, l8, l9, l10, l11, l12, l13, l14, l15, l16, l17, l18, l19, l20, l21, l22, l23, l24, l25, l27, l31, l32, l40, l46, l48, l50, l57, l59, l63, l86, l96, l97, l100, l110, l114, l122, l127, l200, l255, l300, l319, l320, l340, l441, l456, l580, l600, l800, l886, l1206, l1526, J_add, J_sub, J_mul, J_neg, J_lt, J_le, J_eq, jT, jF, iT, iF, eT, eF, aT, aF, ite_true, ite_false, ite_not, bs]
  · have c' : ndB S 0 a = false := by simpa using c
    rw [if_neg c, c']
    exact ⟨-1, g, rfl, if_neg (fun q => q rfl), F⟩
end MQ2
