/-! PURE PART: spans, times, found, best, implies, both sides -/
section MQ4
variable {h : Hp} {x o : Nat} {S : Sx} {a q k : Int}
theorem SBo.spans (M : SBo h x o S) {d s : Int} {b : Bool} (a0 : -2147483648 ≤ a) (a1 : a < 2147483648) (q0 : -2147483648 ≤ q) (q1 : q < 2147483648) (k0 : -2147483648 ≤ k) (k1 : k < 2147483648) (d0 : -2147483648 ≤ d) (d1 : d < 2147483648) (s0 : -2147483648 ≤ s) (s1 : s < 2147483648) : Qh h x o (m_X11_spans x (J a) (J q) (J k) (J d) (J s) (J (b01 b)) h) (m_X12_spans o (J a) (J q) (J k) (J d) (J s) (J (b01 b))) := by
  unfold Qh m_X11_spans
  rw [M.aq a0 a1 q0 q1]
  by_cases c : (ndB S 0 a && ndB S 1 q) = true
  · rw [if_pos c]
    obtain ⟨ca, cq⟩ := (Bool.and_eq_true _ _).mp c
    obtain ⟨G, WQ, -⟩ := M.qs cq
    have C := (M.arch ca).1
    have A := (M.wfA ca).1
    have n0 := A.n0
    have hh := G.has k0 k1
    by_cases hk : 0 ≤ k ∧ k < sQ S q 0
    · rw [decide_eq_true hk.1, decide_eq_true hk.2, Bool.true_and] at hh
      by_cases hv : 0 ≤ d ∧ d < sT S a 0
      · have hc := C.hasDocT hv.1 hv.2
        obtain ⟨h1, e1, F1, SC1, M1⟩ := M.look ca cq (last := k) (by omega) hk.2
        have he := SC1.held M1.se A (k := k) (d := d) hk.1 (by omega) (by have := WQ.1; omega) hv.1 hv.2
        have lt := HE_lt A WQ hk.1 hk.2 hv.1 (by omega)
        obtain ⟨g, e, F, R⟩ := M1.lay a0 a1 q0 q1
        obtain ⟨RMg, RQg, RHg⟩ := R c
        have ia := RQg.isAsking k0 k1
        rw [decide_eq_true hk] at ia
        have hr := RMg.isDocT hv.1 hv.2
        have cell := RHg.cell RMg WQ hk.1 hk.2 hv.1 (by omega)
        generalize HE (sT S a) (sQ S q) k d = m at *
        by_cases cs : s = -1
        · obtain ⟨y, pv, qv⟩ : ∃ y, m_X5_runs (J (m : Nat)) h1 = some (J y) ∧ m_X12_rowsIn (J (m : Nat)) g = some (J y) := ⟨_, X5_runs_ok lt, X12_rowsIn_ok lt⟩
          refine ⟨y, h1, g, ?_, ?_, F1.trans F, F1⟩
          · rw [cs]
            simp (disch := omega) only [rc_ok G.tag, hh, rc_ok C.tag, hc, M.r4, rc_ok M.se.1, e1, M1.r4, rc_ok M1.se.1, he, pv, lm1, bI, bN, cond_true, lm8, lm2, lm1, l0, l1, l2, l3, l4, l5, l6, l7, l8, l9, l10, l11, l12, l13, l14, l15, l16, l17, l18, l19, l20, l21, l22, l23, l24, l25, l27, l31, l32, l40, l46, l48, l50, l57, l59, l63, l86, l96, l97, l100, l110, l114, l122, l127, l200, l255, l300, l319, l320, l340, l441, l456, l580, l600, l800, l886, l1206, l1526, J_add, J_sub, J_mul, J_neg, J_lt, J_le, J_eq, jT, jF, iT, iF, eT, eF, aT, aF, ite_true, ite_false, ite_not, bs]
          · unfold m_X12_spans
            rw [e, c, cs]
            simp (disch := omega) only [rc_ok RMg.tag, ia, hr, RMg.1.r29, cell, qv, lm1, bI, bN, cond_true, lm8, lm2, lm1, l0, l1, l2, l3, l4, l5, l6, l7, l8, l9, l10, l11, l12, l13, l14, l15, l16, l17, l18, l19, l20, l21, l22, l23, l24, l25, l27, l31, l32, l40, l46, l48, l50, l57, l59, l63, l86, l96, l97, l100, l110, l114, l122, l127, l200, l255, l300, l319, l320, l340, l441, l456, l580, l600, l800, l886, l1206, l1526, J_add, J_sub, J_mul, J_neg, J_lt, J_le, J_eq, jT, jF, iT, iF, eT, eF, aT, aF, ite_true, ite_false, ite_not, bs]
        · have cs' : s < -1 ∨ -1 < s := by omega
          have ra := X5_runAt_ok (h := h1) lt s0 s1
          have sp := X12_spansLoop (h := g) lt s0 s1 (b := b)
          cases b
          · obtain ⟨y, pv, qv⟩ : ∃ y, m_X5_firstBit (J (setN 10 (fun v => rwB m s v) : Nat)) h1 = some (J y) ∧ l_X12_spans_64 (J s) (J 0) (J m) g (J (-1)) (J 0) = some (J y, g) := ⟨_, run_first, sp⟩
            refine ⟨y, h1, g, ?_, ?_, F1.trans F, F1⟩
            · have z : b01 false = 0 := rfl
              rw [z]
              simp (disch := first | omega | exact cs') only [rc_ok G.tag, hh, rc_ok C.tag, hc, M.r4, rc_ok M.se.1, e1, M1.r4, rc_ok M1.se.1, he, ra, pv, j_X11_spans_114, lm1, bI, bN, cond_true, lm8, lm2, lm1, l0, l1, l2, l3, l4, l5, l6, l7, l8, l9, l10, l11, l12, l13, l14, l15, l16, l17, l18, l19, l20, l21, l22, l23, l24, l25, l27, l31, l32, l40, l46, l48, l50, l57, l59, l63, l86, l96, l97, l100, l110, l114, l122, l127, l200, l255, l300, l319, l320, l340, l441, l456, l580, l600, l800, l886, l1206, l1526, J_add, J_sub, J_mul, J_neg, J_lt, J_le, J_eq, jT, jF, iT, iF, eT, eF, aT, aF, ite_true, ite_false, ite_not, bs]
            · unfold m_X12_spans
              rw [e, c]
              have z : b01 false = 0 := rfl
              rw [z]
              simp (disch := first | omega | exact cs') only [rc_ok RMg.tag, ia, hr, RMg.1.r29, cell, qv, lm1, bI, bN, cond_true, lm8, lm2, lm1, l0, l1, l2, l3, l4, l5, l6, l7, l8, l9, l10, l11, l12, l13, l14, l15, l16, l17, l18, l19, l20, l21, l22, l23, l24, l25, l27, l31, l32, l40, l46, l48, l50, l57, l59, l63, l86, l96, l97, l100, l110, l114, l122, l127, l200, l255, l300, l319, l320, l340, l441, l456, l580, l600, l800, l886, l1206, l1526, J_add, J_sub, J_mul, J_neg, J_lt, J_le, J_eq, jT, jF, iT, iF, eT, eF, aT, aF, ite_true, ite_false, ite_not, bs]
          · obtain ⟨y, pv, qv⟩ : ∃ y, m_X5_lastBit (J (setN 10 (fun v => rwB m s v) : Nat)) h1 = some (J y) ∧ l_X12_spans_64 (J s) (J 1) (J m) g (J (-1)) (J 0) = some (J y, g) := ⟨_, run_last, sp⟩
            refine ⟨y, h1, g, ?_, ?_, F1.trans F, F1⟩
            · have z : b01 true = 1 := rfl
              rw [z]
              simp (disch := first | omega | exact cs') only [rc_ok G.tag, hh, rc_ok C.tag, hc, M.r4, rc_ok M.se.1, e1, M1.r4, rc_ok M1.se.1, he, ra, pv, j_X11_spans_114, lm1, z, lm8, lm2, lm1, l0, l1, l2, l3, l4, l5, l6, l7, l8, l9, l10, l11, l12, l13, l14, l15, l16, l17, l18, l19, l20, l21, l22, l23, l24, l25, l27, l31, l32, l40, l46, l48, l50, l57, l59, l63, l86, l96, l97, l100, l110, l114, l122, l127, l200, l255, l300, l319, l320, l340, l441, l456, l580, l600, l800, l886, l1206, l1526, J_add, J_sub, J_mul, J_neg, J_lt, J_le, J_eq, jT, jF, iT, iF, eT, eF, aT, aF, ite_true, ite_false, ite_not, bs]
            · unfold m_X12_spans
              rw [e, c]
              have z : b01 true = 1 := rfl
              rw [z]
              simp (disch := first | omega | exact cs') only [rc_ok RMg.tag, ia, hr, RMg.1.r29, cell, qv, lm1, z, lm8, lm2, lm1, l0, l1, l2, l3, l4, l5, l6, l7, l8, l9, l10, l11, l12, l13, l14, l15, l16, l17, l18, l19, l20, l21, l22, l23, l24, l25, l27, l31, l32, l40, l46, l48, l50, l57, l59, l63, l86, l96, l97, l100, l110, l114, l122, l127, l200, l255, l300, l319, l320, l340, l441, l456, l580, l600, l800, l886, l1206, l1526, J_add, J_sub, J_mul, J_neg, J_lt, J_le, J_eq, jT, jF, iT, iF, eT, eF, aT, aF, ite_true, ite_false, ite_not, bs]
      · have hc := C.hasDocF (d := d) (by omega) d0 d1
        obtain ⟨g, e, F, R⟩ := M.lay a0 a1 q0 q1
        obtain ⟨RMg, RQg, RHg⟩ := R c
        have ia := RQg.isAsking k0 k1
        rw [decide_eq_true hk] at ia
        have hr := RMg.isDocF (d := d) (by omega) d0 d1
        refine ⟨-1, h, g, ?_, ?_, F, FR.refl _ _⟩
        · simp (disch := omega) only [rc_ok G.tag, hh, rc_ok C.tag, hc, lm1, bI, bN, cond_true, lm8, lm2, lm1, l0, l1, l2, l3, l4, l5, l6, l7, l8, l9, l10, l11, l12, l13, l14, l15, l16, l17, l18, l19, l20, l21, l22, l23, l24, l25, l27, l31, l32, l40, l46, l48, l50, l57, l59, l63, l86, l96, l97, l100, l110, l114, l122, l127, l200, l255, l300, l319, l320, l340, l441, l456, l580, l600, l800, l886, l1206, l1526, J_add, J_sub, J_mul, J_neg, J_lt, J_le, J_eq, jT, jF, iT, iF, eT, eF, aT, aF, ite_true, ite_false, ite_not, bs]
        · unfold m_X12_spans
          rw [e, c]
          simp (disch := omega) only [rc_ok RMg.tag, ia, hr, lm1, bI, bN, cond_true, lm8, lm2, lm1, l0, l1, l2, l3, l4, l5, l6, l7, l8, l9, l10, l11, l12, l13, l14, l15, l16, l17, l18, l19, l20, l21, l22, l23, l24, l25, l27, l31, l32, l40, l46, l48, l50, l57, l59, l63, l86, l96, l97, l100, l110, l114, l122, l127, l200, l255, l300, l319, l320, l340, l441, l456, l580, l600, l800, l886, l1206, l1526, J_add, J_sub, J_mul, J_neg, J_lt, J_le, J_eq, jT, jF, iT, iF, eT, eF, aT, aF, ite_true, ite_false, ite_not, bs]
    · rw [and_no hk] at hh
      obtain ⟨g, e, F, R⟩ := M.lay a0 a1 q0 q1
      obtain ⟨RMg, RQg, RHg⟩ := R c
      have ia := RQg.isAsking k0 k1
      rw [decide_eq_false hk] at ia
      refine ⟨-1, h, g, ?_, ?_, F, FR.refl _ _⟩
      · simp (disch := omega) only [rc_ok G.tag, hh, lm1, bI, bN, cond_false, lm8, lm2, lm1, l0, l1, l2, l3, l4, l5, l6, l7, l8, l9, l10, l11, l12, l13, l14, l15, l16, l17, l18, l19, l20, l21, l22, l23, l24, l25, l27, l31, l32, l40, l46, l48, l50, l57, l59, l63, l86, l96, l97, l100, l110, l114, l122, l127, l200, l255, l300, l319, l320, l340, l441, l456, l580, l600, l800, l886, l1206, l1526, J_add, J_sub, J_mul, J_neg, J_lt, J_le, J_eq, jT, jF, iT, iF, eT, eF, aT, aF, ite_true, ite_false, ite_not, bs]
      · unfold m_X12_spans
        rw [e, c]
        simp (disch := omega) only [rc_ok RMg.tag, ia, lm1, bI, bN, cond_true, cond_false, lm8, lm2, lm1, l0, l1, l2, l3, l4, l5, l6, l7, l8, l9, l10, l11, l12, l13, l14, l15, l16, l17, l18, l19, l20, l21, l22, l23, l24, l25, l27, l31, l32, l40, l46, l48, l50, l57, l59, l63, l86, l96, l97, l100, l110, l114, l122, l127, l200, l255, l300, l319, l320, l340, l441, l456, l580, l600, l800, l886, l1206, l1526, J_add, J_sub, J_mul, J_neg, J_lt, J_le, J_eq, jT, jF, iT, iF, eT, eF, aT, aF, ite_true, ite_false, ite_not, bs]
  · have c' : (ndB S 0 a && ndB S 1 q) = false := by simpa using c
    obtain ⟨g, e, F, R⟩ := M.lay a0 a1 q0 q1
    rw [if_neg c]
    refine ⟨-1, h, g, rfl, ?_, F, FR.refl _ _⟩
    unfold m_X12_spans
    rw [e, c']
    exact if_pos rfl
theorem SBo.best (M : SBo h x o S) {w : Int} (a0 : -2147483648 ≤ a) (a1 : a < 2147483648) (q0 : -2147483648 ≤ q) (q1 : q < 2147483648) (w0 : -2147483648 ≤ w) (w1 : w < 2147483648) : Qh h x o (m_X11_best x (J a) (J q) (J w) h) (m_X12_best o (J a) (J q) (J w)) := by
  unfold Qh m_X11_best
  rw [M.aq2 a0 a1 q0 q1]
  by_cases c : (ndB S 0 a && ndB S 1 q) = true
  · rw [if_pos c]
    obtain ⟨ca, cq⟩ := (Bool.and_eq_true _ _).mp c
    obtain ⟨G, WQ, -⟩ := M.qs cq
    have qz := WQ.1
    obtain ⟨h1, e1, F1, SC1, M1⟩ := M.look ca cq (last := sQ S q 0 - 1) (by omega) (by omega)
    rw [show sQ S q 0 - 1 + 1 = sQ S q 0 by omega] at SC1
    have C1 := (M1.arch ca).1
    have G1 := (M1.qs cq).1
    obtain ⟨g, e, F, R⟩ := M1.lay a0 a1 q0 q1
    obtain ⟨RMg, RQg, RHg⟩ := R c
    by_cases c0 : w = 0
    · obtain ⟨y, pv, qv⟩ : ∃ y, m_X8_heldMost (x + 68) (x + 8 + 17 * a.toNat) (x + 18 + 17 * q.toNat) h1 = some (J y) ∧ m_X12_bestAsking o g = some (J y) := ⟨_, C1.heldMost G1 M1.se SC1, RMg.bestAsking RQg RHg⟩
      refine ⟨y, h1, g, ?_, ?_, F1.trans F, F1⟩
      · rw [c0]
        simp (disch := omega) only [M.r4, G.f0, rc_ok M.se.1, e1, M1.r4, rc_ok M1.se.1, pv, lm8, lm2, lm1, l0, l1, l2, l3, l4, l5, l6, l7, l8, l9, l10, l11, l12, l13, l14, l15, l16, l17, l18, l19, l20, l21, l22, l23, l24, l25, l27, l31, l32, l40, l46, l48, l50, l57, l59, l63, l86, l96, l97, l100, l110, l114, l122, l127, l200, l255, l300, l319, l320, l340, l441, l456, l580, l600, l800, l886, l1206, l1526, J_add, J_sub, J_mul, J_neg, J_lt, J_le, J_eq, jT, jF, iT, iF, eT, eF, aT, aF, ite_true, ite_false, ite_not, bs]
      · unfold m_X12_best
        rw [e, c, c0]
        simp (disch := omega) only [rc_ok RMg.tag, qv, j_X12_best_42, bI, bN, cond_true, lm8, lm2, lm1, l0, l1, l2, l3, l4, l5, l6, l7, l8, l9, l10, l11, l12, l13, l14, l15, l16, l17, l18, l19, l20, l21, l22, l23, l24, l25, l27, l31, l32, l40, l46, l48, l50, l57, l59, l63, l86, l96, l97, l100, l110, l114, l122, l127, l200, l255, l300, l319, l320, l340, l441, l456, l580, l600, l800, l886, l1206, l1526, J_add, J_sub, J_mul, J_neg, J_lt, J_le, J_eq, jT, jF, iT, iF, eT, eF, aT, aF, ite_true, ite_false, ite_not, bs]
    · have c0' : w < 0 ∨ 0 < w := by omega
      by_cases c1 : w = 1
      · obtain ⟨y, pv, qv⟩ : ∃ y, m_X8_sameCouples (x + 68) (x + 8 + 17 * a.toNat) (x + 18 + 17 * q.toNat) h1 = some (J y) ∧ m_X12_samePairs o g = some (J y) := ⟨_, C1.sameCouples G1 M1.se SC1, RMg.samePairs RQg RHg⟩
        refine ⟨y, h1, g, ?_, ?_, F1.trans F, F1⟩
        · rw [c1]
          simp (disch := omega) only [M.r4, G.f0, rc_ok M.se.1, e1, M1.r4, rc_ok M1.se.1, pv, lm8, lm2, lm1, l0, l1, l2, l3, l4, l5, l6, l7, l8, l9, l10, l11, l12, l13, l14, l15, l16, l17, l18, l19, l20, l21, l22, l23, l24, l25, l27, l31, l32, l40, l46, l48, l50, l57, l59, l63, l86, l96, l97, l100, l110, l114, l122, l127, l200, l255, l300, l319, l320, l340, l441, l456, l580, l600, l800, l886, l1206, l1526, J_add, J_sub, J_mul, J_neg, J_lt, J_le, J_eq, jT, jF, iT, iF, eT, eF, aT, aF, ite_true, ite_false, ite_not, bs]
        · unfold m_X12_best
          rw [e, c, c1]
          simp (disch := omega) only [rc_ok RMg.tag, qv, j_X12_best_42, bI, bN, cond_true, lm8, lm2, lm1, l0, l1, l2, l3, l4, l5, l6, l7, l8, l9, l10, l11, l12, l13, l14, l15, l16, l17, l18, l19, l20, l21, l22, l23, l24, l25, l27, l31, l32, l40, l46, l48, l50, l57, l59, l63, l86, l96, l97, l100, l110, l114, l122, l127, l200, l255, l300, l319, l320, l340, l441, l456, l580, l600, l800, l886, l1206, l1526, J_add, J_sub, J_mul, J_neg, J_lt, J_le, J_eq, jT, jF, iT, iF, eT, eF, aT, aF, ite_true, ite_false, ite_not, bs]
      · have c1' : w < 1 ∨ 1 < w := by omega
        refine ⟨-2, h1, g, ?_, ?_, F1.trans F, F1⟩
        · simp (disch := first | omega | assumption) only [M.r4, G.f0, rc_ok M.se.1, e1, lm2, lm8, lm2, lm1, l0, l1, l2, l3, l4, l5, l6, l7, l8, l9, l10, l11, l12, l13, l14, l15, l16, l17, l18, l19, l20, l21, l22, l23, l24, l25, l27, l31, l32, l40, l46, l48, l50, l57, l59, l63, l86, l96, l97, l100, l110, l114, l122, l127, l200, l255, l300, l319, l320, l340, l441, l456, l580, l600, l800, l886, l1206, l1526, J_add, J_sub, J_mul, J_neg, J_lt, J_le, J_eq, jT, jF, iT, iF, eT, eF, aT, aF, ite_true, ite_false, ite_not, bs]
        · unfold m_X12_best
          rw [e, c]
          simp (disch := first | omega | assumption) only [j_X12_best_42, lm2, bI, bN, cond_true, lm8, lm2, lm1, l0, l1, l2, l3, l4, l5, l6, l7, l8, l9, l10, l11, l12, l13, l14, l15, l16, l17, l18, l19, l20, l21, l22, l23, l24, l25, l27, l31, l32, l40, l46, l48, l50, l57, l59, l63, l86, l96, l97, l100, l110, l114, l122, l127, l200, l255, l300, l319, l320, l340, l441, l456, l580, l600, l800, l886, l1206, l1526, J_add, J_sub, J_mul, J_neg, J_lt, J_le, J_eq, jT, jF, iT, iF, eT, eF, aT, aF, ite_true, ite_false, ite_not, bs]
  · have c' : (ndB S 0 a && ndB S 1 q) = false := by simpa using c
    obtain ⟨g, e, F, R⟩ := M.lay a0 a1 q0 q1
    rw [if_neg c]
    refine ⟨-2, h, g, rfl, ?_, F, FR.refl _ _⟩
    unfold m_X12_best
    rw [e, c']
    exact if_neg (fun q => q rfl)
theorem SBo.implies (M : SBo h x o S) {b : Int} (a0 : -2147483648 ≤ a) (a1 : a < 2147483648) (q0 : -2147483648 ≤ q) (q1 : q < 2147483648) (k0 : -2147483648 ≤ k) (k1 : k < 2147483648) (b0 : -2147483648 ≤ b) (b1 : b < 2147483648) : Qh h x o (m_X11_implies x (J a) (J q) (J k) (J b) h) (m_X12_implies o (J a) (J q) (J k) (J b)) := by
  unfold Qh m_X11_implies
  rw [M.aq a0 a1 q0 q1]
  by_cases c : (ndB S 0 a && ndB S 1 q) = true
  · rw [if_pos c]
    obtain ⟨ca, cq⟩ := (Bool.and_eq_true _ _).mp c
    obtain ⟨G, WQ, -⟩ := M.qs cq
    have hh := G.has k0 k1
    have hh2 := G.has b0 b1
    by_cases hk : 0 ≤ k ∧ k < sQ S q 0
    · rw [decide_eq_true hk.1, decide_eq_true hk.2, Bool.true_and] at hh
      by_cases hb : 0 ≤ b ∧ b < sQ S q 0
      · rw [decide_eq_true hb.1, decide_eq_true hb.2, Bool.true_and] at hh2
        have mx : m_J9_max_7cf53 (J k) (J b) h = some (J (max k b)) := J9_max_ok k0 k1 b0 b1
        obtain ⟨h1, e1, F1, SC1, M1⟩ := M.look ca cq (last := max k b) (by omega) (by omega)
        have C1 := (M1.arch ca).1
        have qz := WQ.1
        have wi := C1.within WQ M1.se SC1 (by omega) (a := k) (b := b) hk.1 (by omega) hb.1 (by omega)
        obtain ⟨g, e, F, R⟩ := M1.lay a0 a1 q0 q1
        obtain ⟨RMg, RQg, RHg⟩ := R c
        have ia := RQg.isAsking k0 k1
        rw [decide_eq_true hk] at ia
        have ib := RQg.isAsking b0 b1
        rw [decide_eq_true hb] at ib
        have wr := RMg.isWithin WQ RHg hk.1 hk.2 hb.1 hb.2
        generalize wiB (sT S a) (sQ S q) k b = y at *
        generalize max k b = mk_ at *
        refine ⟨b01 y, h1, g, ?_, ?_, F1.trans F, F1⟩
        · simp (disch := omega) only [rc_ok G.tag, hh, hh2, mx, M.r4, rc_ok M.se.1, e1, M1.r4, rc_ok M1.se.1, wi, j_X11_implies_88, bI, bN, bJ, cond_true, lm8, lm2, lm1, l0, l1, l2, l3, l4, l5, l6, l7, l8, l9, l10, l11, l12, l13, l14, l15, l16, l17, l18, l19, l20, l21, l22, l23, l24, l25, l27, l31, l32, l40, l46, l48, l50, l57, l59, l63, l86, l96, l97, l100, l110, l114, l122, l127, l200, l255, l300, l319, l320, l340, l441, l456, l580, l600, l800, l886, l1206, l1526, J_add, J_sub, J_mul, J_neg, J_lt, J_le, J_eq, jT, jF, iT, iF, eT, eF, aT, aF, ite_true, ite_false, ite_not, bs]
        · unfold m_X12_implies
          rw [e, c]
          simp (disch := omega) only [rc_ok RMg.tag, ia, ib, wr, j_X12_implies_48, bI, bN, bJ, cond_true, lm8, lm2, lm1, l0, l1, l2, l3, l4, l5, l6, l7, l8, l9, l10, l11, l12, l13, l14, l15, l16, l17, l18, l19, l20, l21, l22, l23, l24, l25, l27, l31, l32, l40, l46, l48, l50, l57, l59, l63, l86, l96, l97, l100, l110, l114, l122, l127, l200, l255, l300, l319, l320, l340, l441, l456, l580, l600, l800, l886, l1206, l1526, J_add, J_sub, J_mul, J_neg, J_lt, J_le, J_eq, jT, jF, iT, iF, eT, eF, aT, aF, ite_true, ite_false, ite_not, bs]
      · rw [and_no hb] at hh2
        obtain ⟨g, e, F, R⟩ := M.lay a0 a1 q0 q1
        obtain ⟨RMg, RQg, RHg⟩ := R c
        have ia := RQg.isAsking k0 k1
        rw [decide_eq_true hk] at ia
        have ib := RQg.isAsking b0 b1
        rw [decide_eq_false hb] at ib
        refine ⟨-1, h, g, ?_, ?_, F, FR.refl _ _⟩
        · simp (disch := omega) only [rc_ok G.tag, hh, hh2, lm1, bI, bN, cond_true, cond_false, lm8, lm2, lm1, l0, l1, l2, l3, l4, l5, l6, l7, l8, l9, l10, l11, l12, l13, l14, l15, l16, l17, l18, l19, l20, l21, l22, l23, l24, l25, l27, l31, l32, l40, l46, l48, l50, l57, l59, l63, l86, l96, l97, l100, l110, l114, l122, l127, l200, l255, l300, l319, l320, l340, l441, l456, l580, l600, l800, l886, l1206, l1526, J_add, J_sub, J_mul, J_neg, J_lt, J_le, J_eq, jT, jF, iT, iF, eT, eF, aT, aF, ite_true, ite_false, ite_not, bs]
        · unfold m_X12_implies
          rw [e, c]
          simp (disch := omega) only [rc_ok RMg.tag, ia, ib, lm1, bI, bN, cond_true, cond_false, lm8, lm2, lm1, l0, l1, l2, l3, l4, l5, l6, l7, l8, l9, l10, l11, l12, l13, l14, l15, l16, l17, l18, l19, l20, l21, l22, l23, l24, l25, l27, l31, l32, l40, l46, l48, l50, l57, l59, l63, l86, l96, l97, l100, l110, l114, l122, l127, l200, l255, l300, l319, l320, l340, l441, l456, l580, l600, l800, l886, l1206, l1526, J_add, J_sub, J_mul, J_neg, J_lt, J_le, J_eq, jT, jF, iT, iF, eT, eF, aT, aF, ite_true, ite_false, ite_not, bs]
    · rw [and_no hk] at hh
      obtain ⟨g, e, F, R⟩ := M.lay a0 a1 q0 q1
      obtain ⟨RMg, RQg, RHg⟩ := R c
      have ia := RQg.isAsking k0 k1
      rw [decide_eq_false hk] at ia
      refine ⟨-1, h, g, ?_, ?_, F, FR.refl _ _⟩
      · simp (disch := omega) only [rc_ok G.tag, hh, lm1, bI, bN, cond_false, lm8, lm2, lm1, l0, l1, l2, l3, l4, l5, l6, l7, l8, l9, l10, l11, l12, l13, l14, l15, l16, l17, l18, l19, l20, l21, l22, l23, l24, l25, l27, l31, l32, l40, l46, l48, l50, l57, l59, l63, l86, l96, l97, l100, l110, l114, l122, l127, l200, l255, l300, l319, l320, l340, l441, l456, l580, l600, l800, l886, l1206, l1526, J_add, J_sub, J_mul, J_neg, J_lt, J_le, J_eq, jT, jF, iT, iF, eT, eF, aT, aF, ite_true, ite_false, ite_not, bs]
      · unfold m_X12_implies
        rw [e, c]
        simp (disch := omega) only [rc_ok RMg.tag, ia, lm1, bI, bN, cond_true, cond_false, lm8, lm2, lm1, l0, l1, l2, l3, l4, l5, l6, l7, l8, l9, l10, l11, l12, l13, l14, l15, l16, l17, l18, l19, l20, l21, l22, l23, l24, l25, l27, l31, l32, l40, l46, l48, l50, l57, l59, l63, l86, l96, l97, l100, l110, l114, l122, l127, l200, l255, l300, l319, l320, l340, l441, l456, l580, l600, l800, l886, l1206, l1526, J_add, J_sub, J_mul, J_neg, J_lt, J_le, J_eq, jT, jF, iT, iF, eT, eF, aT, aF, ite_true, ite_false, ite_not, bs]
  · have c' : (ndB S 0 a && ndB S 1 q) = false := by simpa using c
    obtain ⟨g, e, F, R⟩ := M.lay a0 a1 q0 q1
    rw [if_neg c]
    refine ⟨-1, h, g, rfl, ?_, F, FR.refl _ _⟩
    unfold m_X12_implies
    rw [e, c']
    exact if_pos rfl
end MQ4
