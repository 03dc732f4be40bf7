/-! PURE PART: question, fact, fits, both sides -/
section MQ6
variable {h : Hp} {x o : Nat} {S : Sx} {a q k : Int}
theorem SBo.askIn (M : SBo h x o S) (q0 : -2147483648 ≤ q) (q1 : q < 2147483648) : ∃ g, (∀ (F : Int32 × Hp → Option (Int32 × Hp)), ((pfI h o 12 0 (0 : Int32)).bind fun hh1 => (rc hh1 o 12 (m_X12_hasAsking o (J q) hh1)).bind F) = F (J (b01 (ndB S 1 q)), g)) ∧ FR (Asc x o) h g ∧ SBo g x o S ∧ (ndB S 1 q = true → RQ g o (sQ S q)) := by
  have T := M.2.2.1.1
  have p1 : pfI h o 12 0 (J 0) = some (wE h o 0 0) := pfI_ok T.tag
  have F1 : FR (Asc x o) h (wE h o 0 0) := FR.wE (A := Asc x o) (Or.inr (Or.inl rfl))
  generalize wE h o 0 0 = g0 at *
  have M0 := M.frame F1
  obtain ⟨g1, e1, F2, R1⟩ := M0.2.2.1.asking M0.2.2.2.1 q0 q1
  have F2' : FR (Asc x o) g0 g1 := F2.mono (fun b k q => by unfold Asc; omega)
  refine ⟨g1, fun F => ?_, F1.trans F2', M0.frame F2', R1⟩
  rw [show (0 : Int32) = J 0 from rfl, p1, bs, rc_ok M0.2.2.1.1.tag, e1, bs]
theorem SBo.huntIn (M : SBo h x o S) (q0 : -2147483648 ≤ q) (q1 : q < 2147483648) : ∃ g, (∀ (F : Int32 × Hp → Option (Int32 × Hp)), ((pfI h o 12 0 (0 : Int32)).bind fun hh1 => (rc hh1 o 12 (m_X12_hasHunt o (J q) hh1)).bind F) = F (J (b01 (ndB S 2 q)), g)) ∧ FR (Asc x o) h g ∧ SBo g x o S ∧ (ndB S 2 q = true → RU g o (sU S q)) := by
  have T := M.2.2.1.1
  have p1 : pfI h o 12 0 (J 0) = some (wE h o 0 0) := pfI_ok T.tag
  have F1 : FR (Asc x o) h (wE h o 0 0) := FR.wE (A := Asc x o) (Or.inr (Or.inl rfl))
  generalize wE h o 0 0 = g0 at *
  have M0 := M.frame F1
  obtain ⟨g1, e1, F2, R1⟩ := M0.2.2.1.hunt M0.2.2.2.1 q0 q1
  have F2' : FR (Asc x o) g0 g1 := F2.mono (fun b k q => by unfold Asc; omega)
  refine ⟨g1, fun F => ?_, F1.trans F2', M0.frame F2', R1⟩
  rw [show (0 : Int32) = J 0 from rfl, p1, bs, rc_ok M0.2.2.1.1.tag, e1, bs]
theorem RQ.wordsOf {Q : Int → Int} (G : RQ h o Q) (k0 : 0 ≤ k) (k1 : k < Q 0) : m_X12_wordsOf o (J k) h = some (J (qcT Q k)) := by
  have q0 := G.2.1.1
  have ek := G.kind k0 (by omega)
  have ea := G.na k0 (by omega)
  have kb := (G.2.1.2 k k0 k1).1
  unfold qcT
  by_cases c0 : qkT Q k = 0
  · rw [if_pos c0]
    rw [c0] at ek
    simp (disch := omega) only [m_X12_wordsOf, j_X12_wordsOf_39, rc_ok G.tag, ek, ea, lm8, lm2, lm1, l0, l1, l2, l3, l4, l5, l6, l7, l8, l9, l10, l11, l12, l13, l14, l15, l16, l17, l18, l19, l20, l21, l22, l23, l24, l25, l27, l31, l32, l40, l46, l48, l50, l57, l59, l63, l86, l96, l97, l100, l110, l114, l122, l127, l200, l255, l300, l319, l320, l340, l441, l456, l580, l600, l800, l886, l1206, l1526, J_add, J_sub, J_mul, J_neg, J_lt, J_le, J_eq, jT, jF, iT, iF, eT, eF, aT, aF, ite_true, ite_false, ite_not, bs]
  · rw [if_neg c0]
    generalize qkT Q k = z at *
    have c0' : z < 0 ∨ 0 < z := by omega
    by_cases c1 : z = 1
    · rw [if_pos c1]
      rw [c1] at ek
      simp (disch := omega) only [m_X12_wordsOf, j_X12_wordsOf_39, rc_ok G.tag, ek, lm8, lm2, lm1, l0, l1, l2, l3, l4, l5, l6, l7, l8, l9, l10, l11, l12, l13, l14, l15, l16, l17, l18, l19, l20, l21, l22, l23, l24, l25, l27, l31, l32, l40, l46, l48, l50, l57, l59, l63, l86, l96, l97, l100, l110, l114, l122, l127, l200, l255, l300, l319, l320, l340, l441, l456, l580, l600, l800, l886, l1206, l1526, J_add, J_sub, J_mul, J_neg, J_lt, J_le, J_eq, jT, jF, iT, iF, eT, eF, aT, aF, ite_true, ite_false, ite_not, bs]
    · rw [if_neg c1]
      have c1' : z < 1 ∨ 1 < z := by omega
      by_cases c2 : z = 2
      · rw [if_pos c2]
        rw [c2] at ek
        simp (disch := omega) only [m_X12_wordsOf, j_X12_wordsOf_39, rc_ok G.tag, ek, lm8, lm2, lm1, l0, l1, l2, l3, l4, l5, l6, l7, l8, l9, l10, l11, l12, l13, l14, l15, l16, l17, l18, l19, l20, l21, l22, l23, l24, l25, l27, l31, l32, l40, l46, l48, l50, l57, l59, l63, l86, l96, l97, l100, l110, l114, l122, l127, l200, l255, l300, l319, l320, l340, l441, l456, l580, l600, l800, l886, l1206, l1526, J_add, J_sub, J_mul, J_neg, J_lt, J_le, J_eq, jT, jF, iT, iF, eT, eF, aT, aF, ite_true, ite_false, ite_not, bs]
      · rw [if_neg c2]
        have c2' : z < 2 ∨ 2 < z := by omega
        simp (disch := first | omega | assumption) only [m_X12_wordsOf, j_X12_wordsOf_39, rc_ok G.tag, ek, lm8, lm2, lm1, l0, l1, l2, l3, l4, l5, l6, l7, l8, l9, l10, l11, l12, l13, l14, l15, l16, l17, l18, l19, l20, l21, l22, l23, l24, l25, l27, l31, l32, l40, l46, l48, l50, l57, l59, l63, l86, l96, l97, l100, l110, l114, l122, l127, l200, l255, l300, l319, l320, l340, l441, l456, l580, l600, l800, l886, l1206, l1526, J_add, J_sub, J_mul, J_neg, J_lt, J_le, J_eq, jT, jF, iT, iF, eT, eF, aT, aF, ite_true, ite_false, ite_not, bs]
theorem SBo.question (M : SBo h x o S) {w : Int} (q0 : -2147483648 ≤ q) (q1 : q < 2147483648) (k0 : -2147483648 ≤ k) (k1 : k < 2147483648) (w0 : -2147483648 ≤ w) (w1 : w < 2147483648) : Qy h x o (m_X11_question x (J q) (J k) (J w) h) (m_X12_question o (J q) (J k) (J w)) := by
  obtain ⟨g, e, F, Mg, R⟩ := M.askIn q0 q1
  unfold Qy m_X11_question m_X12_question
  rw [M.qP q0 q1, e]
  by_cases c : ndB S 1 q = true
  · rw [if_pos c, c]
    obtain ⟨G, WQ, -⟩ := M.qs c
    have RQg := R c
    have qz := WQ.1
    generalize x + 18 + 17 * q.toNat = o1 at *
    have Rc := R c
    generalize sQ S q = Q at *
    by_cases kn : k = -1
    · by_cases c0 : w = 0
      · refine ⟨Q 0, g, ?_, ?_, F⟩
        · rw [kn, c0]
          simp (disch := omega) only [G.f0, j_X11_question_37, lm1, lm8, lm2, lm1, l0, l1, l2, l3, l4, l5, l6, l7, l8, l9, l10, l11, l12, l13, l14, l15, l16, l17, l18, l19, l20, l21, l22, l23, l24, l25, l27, l31, l32, l40, l46, l48, l50, l57, l59, l63, l86, l96, l97, l100, l110, l114, l122, l127, l200, l255, l300, l319, l320, l340, l441, l456, l580, l600, l800, l886, l1206, l1526, J_add, J_sub, J_mul, J_neg, J_lt, J_le, J_eq, jT, jF, iT, iF, eT, eF, aT, aF, ite_true, ite_false, ite_not, bs]
        · rw [kn, c0]
          simp (disch := omega) only [rc_ok RQg.tag, RQg.many, j_X12_question_34, lm1, bI, bN, cond_true, lm8, lm2, lm1, l0, l1, l2, l3, l4, l5, l6, l7, l8, l9, l10, l11, l12, l13, l14, l15, l16, l17, l18, l19, l20, l21, l22, l23, l24, l25, l27, l31, l32, l40, l46, l48, l50, l57, l59, l63, l86, l96, l97, l100, l110, l114, l122, l127, l200, l255, l300, l319, l320, l340, l441, l456, l580, l600, l800, l886, l1206, l1526, J_add, J_sub, J_mul, J_neg, J_lt, J_le, J_eq, jT, jF, iT, iF, eT, eF, aT, aF, ite_true, ite_false, ite_not, bs]
      · have c0' : w < 0 ∨ 0 < w := by omega
        refine ⟨-2, g, ?_, ?_, F⟩
        · rw [kn]
          simp (disch := first | omega | assumption) only [j_X11_question_37, lm1, lm2, lm8, lm2, lm1, l0, l1, l2, l3, l4, l5, l6, l7, l8, l9, l10, l11, l12, l13, l14, l15, l16, l17, l18, l19, l20, l21, l22, l23, l24, l25, l27, l31, l32, l40, l46, l48, l50, l57, l59, l63, l86, l96, l97, l100, l110, l114, l122, l127, l200, l255, l300, l319, l320, l340, l441, l456, l580, l600, l800, l886, l1206, l1526, J_add, J_sub, J_mul, J_neg, J_lt, J_le, J_eq, jT, jF, iT, iF, eT, eF, aT, aF, ite_true, ite_false, ite_not, bs]
        · rw [kn]
          simp (disch := first | omega | assumption) only [j_X12_question_34, lm1, lm2, bI, bN, cond_true, lm8, lm2, lm1, l0, l1, l2, l3, l4, l5, l6, l7, l8, l9, l10, l11, l12, l13, l14, l15, l16, l17, l18, l19, l20, l21, l22, l23, l24, l25, l27, l31, l32, l40, l46, l48, l50, l57, l59, l63, l86, l96, l97, l100, l110, l114, l122, l127, l200, l255, l300, l319, l320, l340, l441, l456, l580, l600, l800, l886, l1206, l1526, J_add, J_sub, J_mul, J_neg, J_lt, J_le, J_eq, jT, jF, iT, iF, eT, eF, aT, aF, ite_true, ite_false, ite_not, bs]
    · have kn' : k < -1 ∨ -1 < k := by omega
      have hh := G.has k0 k1
      by_cases hk : 0 ≤ k ∧ k < Q 0
      · rw [decide_eq_true hk.1, decide_eq_true hk.2, Bool.true_and] at hh
        have ei : m_X12_in (J k) (J 0) (J (Q 0 - 1)) g = some (J 1) := X12_in_T (by omega) (by omega) (by omega)
        have k8 : k < 8 := by omega
        have pre : ∀ v : Int, (if J w < (10 : Int32) then ((m_X12_in (J w) (0 : Int32) (2 : Int32) g).bind fun x4 => if x4 = 0 then j_X12_question_107 (-2 : Int32) g else (rc g o 12 (m_X12_ofAsking o (J k) (J w) g)).bind fun x5 => j_X12_question_107 x5 g) else (rc g o 12 (m_X12_wordsOf o (J k) g)).bind fun x6 => if x6 ≤ (J w - (10 : Int32)) then j_X12_question_86 (-2 : Int32) g else (rc g o 12 (m_X12_ofAsking o (J k) (((3 : Int32) + J w) - (10 : Int32)) g)).bind fun x7 => j_X12_question_86 x7 g) = some (J v, g) → (if ¬ (J (b01 true), g).1 = 0 then (if ¬ J k = (-1 : Int32) then ((rc (J (b01 true), g).2 o 12 (m_X12_askedMany o (J (b01 true), g).2)).bind fun x2 => (m_X12_in (J k) (0 : Int32) (x2 - (1 : Int32)) (J (b01 true), g).2).bind fun x3 => if ¬ x3 = 0 then (if J w < (10 : Int32) then ((m_X12_in (J w) (0 : Int32) (2 : Int32) (J (b01 true), g).2).bind fun x4 => if x4 = 0 then j_X12_question_107 (-2 : Int32) (J (b01 true), g).2 else (rc (J (b01 true), g).2 o 12 (m_X12_ofAsking o (J k) (J w) (J (b01 true), g).2)).bind fun x5 => j_X12_question_107 x5 (J (b01 true), g).2) else (rc (J (b01 true), g).2 o 12 (m_X12_wordsOf o (J k) (J (b01 true), g).2)).bind fun x6 => if x6 ≤ (J w - (10 : Int32)) then j_X12_question_86 (-2 : Int32) (J (b01 true), g).2 else (rc (J (b01 true), g).2 o 12 (m_X12_ofAsking o (J k) (((3 : Int32) + J w) - (10 : Int32)) (J (b01 true), g).2)).bind fun x7 => j_X12_question_86 x7 (J (b01 true), g).2) else some ((-2 : Int32), (J (b01 true), g).2)) else if ¬ J w = 0 then j_X12_question_34 (-2 : Int32) (J (b01 true), g).2 else (rc (J (b01 true), g).2 o 12 (m_X12_askedMany o (J (b01 true), g).2)).bind fun x8 => j_X12_question_34 x8 (J (b01 true), g).2) else some ((-2 : Int32), (J (b01 true), g).2)) = some (J v, g) := fun v hv => by
          rw [if_pos (show ¬ (J (b01 true) : Int32) = 0 by decide), if_pos (by rw [show (-1 : Int32) = J (-1) from rfl, J_eq k0 k1 (by omega) (by omega)]; exact kn), rc_ok RQg.tag, RQg.many, bs, show (1 : Int32) = J 1 from rfl, J_sub, show (0 : Int32) = J 0 from rfl, ei, bs, if_pos (show ¬ (J 1 : Int32) = J 0 by decide)]
          exact hv
        by_cases c0 : w = 0
        · refine ⟨qkT Q k, g, ?_, pre _ ?_, F⟩
          · rw [c0]
            simp (disch := first | omega | assumption) only [rc_ok G.tag, hh, G.kindOf hk.1 hk.2, lm1, bI, bN, cond_true, lm8, lm2, lm1, l0, l1, l2, l3, l4, l5, l6, l7, l8, l9, l10, l11, l12, l13, l14, l15, l16, l17, l18, l19, l20, l21, l22, l23, l24, l25, l27, l31, l32, l40, l46, l48, l50, l57, l59, l63, l86, l96, l97, l100, l110, l114, l122, l127, l200, l255, l300, l319, l320, l340, l441, l456, l580, l600, l800, l886, l1206, l1526, J_add, J_sub, J_mul, J_neg, J_lt, J_le, J_eq, jT, jF, iT, iF, eT, eF, aT, aF, ite_true, ite_false, ite_not, bs]
          · rw [c0]
            have e2 : m_X12_in (J 0) (J 0) (J 2) g = some (J 1) := X12_in_T (by omega) (by omega) (by omega)
            simp (disch := omega) only [e2, rc_ok RQg.tag, RQg.kind hk.1 k8, j_X12_question_107, lm8, lm2, lm1, l0, l1, l2, l3, l4, l5, l6, l7, l8, l9, l10, l11, l12, l13, l14, l15, l16, l17, l18, l19, l20, l21, l22, l23, l24, l25, l27, l31, l32, l40, l46, l48, l50, l57, l59, l63, l86, l96, l97, l100, l110, l114, l122, l127, l200, l255, l300, l319, l320, l340, l441, l456, l580, l600, l800, l886, l1206, l1526, J_add, J_sub, J_mul, J_neg, J_lt, J_le, J_eq, jT, jF, iT, iF, eT, eF, aT, aF, ite_true, ite_false, ite_not, bs]
        · have c0' : w < 0 ∨ 0 < w := by omega
          by_cases c1 : w = 1
          · refine ⟨qaT Q k, g, ?_, pre _ ?_, F⟩
            · rw [c1]
              simp (disch := first | omega | assumption) only [rc_ok G.tag, hh, G.number0 hk.1 hk.2, lm1, bI, bN, cond_true, lm8, lm2, lm1, l0, l1, l2, l3, l4, l5, l6, l7, l8, l9, l10, l11, l12, l13, l14, l15, l16, l17, l18, l19, l20, l21, l22, l23, l24, l25, l27, l31, l32, l40, l46, l48, l50, l57, l59, l63, l86, l96, l97, l100, l110, l114, l122, l127, l200, l255, l300, l319, l320, l340, l441, l456, l580, l600, l800, l886, l1206, l1526, J_add, J_sub, J_mul, J_neg, J_lt, J_le, J_eq, jT, jF, iT, iF, eT, eF, aT, aF, ite_true, ite_false, ite_not, bs]
            · rw [c1]
              have e2 : m_X12_in (J 1) (J 0) (J 2) g = some (J 1) := X12_in_T (by omega) (by omega) (by omega)
              simp (disch := omega) only [e2, rc_ok RQg.tag, RQg.na hk.1 k8, j_X12_question_107, lm8, lm2, lm1, l0, l1, l2, l3, l4, l5, l6, l7, l8, l9, l10, l11, l12, l13, l14, l15, l16, l17, l18, l19, l20, l21, l22, l23, l24, l25, l27, l31, l32, l40, l46, l48, l50, l57, l59, l63, l86, l96, l97, l100, l110, l114, l122, l127, l200, l255, l300, l319, l320, l340, l441, l456, l580, l600, l800, l886, l1206, l1526, J_add, J_sub, J_mul, J_neg, J_lt, J_le, J_eq, jT, jF, iT, iF, eT, eF, aT, aF, ite_true, ite_false, ite_not, bs]
          · have c1' : w < 1 ∨ 1 < w := by omega
            by_cases c2 : w = 2
            · refine ⟨qbT Q k, g, ?_, pre _ ?_, F⟩
              · rw [c2]
                simp (disch := first | omega | assumption) only [rc_ok G.tag, hh, G.number1 hk.1 hk.2, lm1, bI, bN, cond_true, lm8, lm2, lm1, l0, l1, l2, l3, l4, l5, l6, l7, l8, l9, l10, l11, l12, l13, l14, l15, l16, l17, l18, l19, l20, l21, l22, l23, l24, l25, l27, l31, l32, l40, l46, l48, l50, l57, l59, l63, l86, l96, l97, l100, l110, l114, l122, l127, l200, l255, l300, l319, l320, l340, l441, l456, l580, l600, l800, l886, l1206, l1526, J_add, J_sub, J_mul, J_neg, J_lt, J_le, J_eq, jT, jF, iT, iF, eT, eF, aT, aF, ite_true, ite_false, ite_not, bs]
              · rw [c2]
                have e2 : m_X12_in (J 2) (J 0) (J 2) g = some (J 1) := X12_in_T (by omega) (by omega) (by omega)
                simp (disch := omega) only [e2, rc_ok RQg.tag, RQg.nb hk.1 k8, j_X12_question_107, lm8, lm2, lm1, l0, l1, l2, l3, l4, l5, l6, l7, l8, l9, l10, l11, l12, l13, l14, l15, l16, l17, l18, l19, l20, l21, l22, l23, l24, l25, l27, l31, l32, l40, l46, l48, l50, l57, l59, l63, l86, l96, l97, l100, l110, l114, l122, l127, l200, l255, l300, l319, l320, l340, l441, l456, l580, l600, l800, l886, l1206, l1526, J_add, J_sub, J_mul, J_neg, J_lt, J_le, J_eq, jT, jF, iT, iF, eT, eF, aT, aF, ite_true, ite_false, ite_not, bs]
            · have c2' : w < 2 ∨ 2 < w := by omega
              by_cases c10 : w < 10
              · refine ⟨-2, g, ?_, pre _ ?_, F⟩
                · simp (disch := first | omega | assumption) only [rc_ok G.tag, hh, j_X11_question_136, lm1, lm2, bI, bN, cond_true, lm8, lm2, lm1, l0, l1, l2, l3, l4, l5, l6, l7, l8, l9, l10, l11, l12, l13, l14, l15, l16, l17, l18, l19, l20, l21, l22, l23, l24, l25, l27, l31, l32, l40, l46, l48, l50, l57, l59, l63, l86, l96, l97, l100, l110, l114, l122, l127, l200, l255, l300, l319, l320, l340, l441, l456, l580, l600, l800, l886, l1206, l1526, J_add, J_sub, J_mul, J_neg, J_lt, J_le, J_eq, jT, jF, iT, iF, eT, eF, aT, aF, ite_true, ite_false, ite_not, bs]
                · have e2 : m_X12_in (J w) (J 0) (J 2) g = some (J 0) := X12_in_F (by omega) (by omega) (by omega) (by omega)
                  simp (disch := omega) only [e2, j_X12_question_107, lm2, lm8, lm2, lm1, l0, l1, l2, l3, l4, l5, l6, l7, l8, l9, l10, l11, l12, l13, l14, l15, l16, l17, l18, l19, l20, l21, l22, l23, l24, l25, l27, l31, l32, l40, l46, l48, l50, l57, l59, l63, l86, l96, l97, l100, l110, l114, l122, l127, l200, l255, l300, l319, l320, l340, l441, l456, l580, l600, l800, l886, l1206, l1526, J_add, J_sub, J_mul, J_neg, J_lt, J_le, J_eq, jT, jF, iT, iF, eT, eF, aT, aF, ite_true, ite_false, ite_not, bs]
              · have cn := WQ.cnt hk.1 hk.2
                have w1_ := G.wordsOf hk.1 hk.2
                have w2_ := RQg.wordsOf hk.1 hk.2
                by_cases cw : w - 10 < qcT Q k
                · have wr := (WQ.2 k hk.1 hk.2).2.2.2.2.2.2 (w - 10) (by omega) cw
                  have a1 := G.wordOf (i := w - 10) hk.1 hk.2 (by omega) cw
                  have a2 := RQg.word (i := w - 10) hk.1 k8 (by omega) (by omega)
                  have wn := X5_wordNumber_ok (h := h) wr
                  have e7 : 3 + w - 10 = 3 + (w - 10) := by omega
                  generalize qcT Q k = z at *
                  refine ⟨qwT Q k (w - 10), g, ?_, pre _ ?_, F⟩
                  · simp (disch := first | omega | assumption) only [rc_ok G.tag, hh, w1_, a1, wn, j_X11_question_136, lm1, bI, bN, cond_true, lm8, lm2, lm1, l0, l1, l2, l3, l4, l5, l6, l7, l8, l9, l10, l11, l12, l13, l14, l15, l16, l17, l18, l19, l20, l21, l22, l23, l24, l25, l27, l31, l32, l40, l46, l48, l50, l57, l59, l63, l86, l96, l97, l100, l110, l114, l122, l127, l200, l255, l300, l319, l320, l340, l441, l456, l580, l600, l800, l886, l1206, l1526, J_add, J_sub, J_mul, J_neg, J_lt, J_le, J_eq, jT, jF, iT, iF, eT, eF, aT, aF, ite_true, ite_false, ite_not, bs]
                  · simp (disch := first | omega | assumption) only [rc_ok RQg.tag, w2_, e7, a2, j_X12_question_86, lm8, lm2, lm1, l0, l1, l2, l3, l4, l5, l6, l7, l8, l9, l10, l11, l12, l13, l14, l15, l16, l17, l18, l19, l20, l21, l22, l23, l24, l25, l27, l31, l32, l40, l46, l48, l50, l57, l59, l63, l86, l96, l97, l100, l110, l114, l122, l127, l200, l255, l300, l319, l320, l340, l441, l456, l580, l600, l800, l886, l1206, l1526, J_add, J_sub, J_mul, J_neg, J_lt, J_le, J_eq, jT, jF, iT, iF, eT, eF, aT, aF, ite_true, ite_false, ite_not, bs]
                · generalize qcT Q k = z at *
                  refine ⟨-2, g, ?_, pre _ ?_, F⟩
                  · simp (disch := first | omega | assumption) only [rc_ok G.tag, hh, w1_, j_X11_question_136, lm1, lm2, bI, bN, cond_true, lm8, lm2, lm1, l0, l1, l2, l3, l4, l5, l6, l7, l8, l9, l10, l11, l12, l13, l14, l15, l16, l17, l18, l19, l20, l21, l22, l23, l24, l25, l27, l31, l32, l40, l46, l48, l50, l57, l59, l63, l86, l96, l97, l100, l110, l114, l122, l127, l200, l255, l300, l319, l320, l340, l441, l456, l580, l600, l800, l886, l1206, l1526, J_add, J_sub, J_mul, J_neg, J_lt, J_le, J_eq, jT, jF, iT, iF, eT, eF, aT, aF, ite_true, ite_false, ite_not, bs]
                  · simp (disch := first | omega | assumption) only [rc_ok RQg.tag, w2_, j_X12_question_86, lm2, lm8, lm2, lm1, l0, l1, l2, l3, l4, l5, l6, l7, l8, l9, l10, l11, l12, l13, l14, l15, l16, l17, l18, l19, l20, l21, l22, l23, l24, l25, l27, l31, l32, l40, l46, l48, l50, l57, l59, l63, l86, l96, l97, l100, l110, l114, l122, l127, l200, l255, l300, l319, l320, l340, l441, l456, l580, l600, l800, l886, l1206, l1526, J_add, J_sub, J_mul, J_neg, J_lt, J_le, J_eq, jT, jF, iT, iF, eT, eF, aT, aF, ite_true, ite_false, ite_not, bs]
      · rw [and_no hk] at hh
        have ei : m_X12_in (J k) (J 0) (J (Q 0 - 1)) g = some (J 0) := X12_in_F (by omega) (by omega) (by omega) (by omega)
        have em := RQg.many
        generalize Q 0 = z at *
        refine ⟨-2, g, ?_, ?_, F⟩
        · simp (disch := first | omega | assumption) only [rc_ok G.tag, hh, lm1, lm2, bI, bN, cond_false, lm8, lm2, lm1, l0, l1, l2, l3, l4, l5, l6, l7, l8, l9, l10, l11, l12, l13, l14, l15, l16, l17, l18, l19, l20, l21, l22, l23, l24, l25, l27, l31, l32, l40, l46, l48, l50, l57, l59, l63, l86, l96, l97, l100, l110, l114, l122, l127, l200, l255, l300, l319, l320, l340, l441, l456, l580, l600, l800, l886, l1206, l1526, J_add, J_sub, J_mul, J_neg, J_lt, J_le, J_eq, jT, jF, iT, iF, eT, eF, aT, aF, ite_true, ite_false, ite_not, bs]
        · simp (disch := first | omega | assumption) only [rc_ok RQg.tag, em, ei, lm1, lm2, bI, bN, cond_true, lm8, lm2, lm1, l0, l1, l2, l3, l4, l5, l6, l7, l8, l9, l10, l11, l12, l13, l14, l15, l16, l17, l18, l19, l20, l21, l22, l23, l24, l25, l27, l31, l32, l40, l46, l48, l50, l57, l59, l63, l86, l96, l97, l100, l110, l114, l122, l127, l200, l255, l300, l319, l320, l340, l441, l456, l580, l600, l800, l886, l1206, l1526, J_add, J_sub, J_mul, J_neg, J_lt, J_le, J_eq, jT, jF, iT, iF, eT, eF, aT, aF, ite_true, ite_false, ite_not, bs]
  · have c' : ndB S 1 q = false := by simpa using c
    rw [if_neg c, c']
    exact ⟨-2, g, rfl, if_neg (fun q => q rfl), F⟩
theorem SBo.fact (M : SBo h x o S) {w : Int} (q0 : -2147483648 ≤ q) (q1 : q < 2147483648) (k0 : -2147483648 ≤ k) (k1 : k < 2147483648) (w0 : -2147483648 ≤ w) (w1 : w < 2147483648) : Qy h x o (m_X11_fact x (J q) (J k) (J w) h) (m_X12_fact o (J q) (J k) (J w)) := by
  obtain ⟨g, e, F, Mg, R⟩ := M.huntIn q0 q1
  unfold Qy m_X11_fact m_X12_fact
  rw [M.uP q0 q1, e]
  by_cases c : ndB S 2 q = true
  · rw [if_pos c, c]
    obtain ⟨G, WU, -⟩ := M.us c
    have RUg := R c
    have uz := WU.1
    generalize x + 23 + 17 * q.toNat = o1 at *
    have Rc := R c
    generalize sU S q = U at *
    by_cases kn : k = -1
    · by_cases c0 : w = 0
      · refine ⟨U 0, g, ?_, ?_, F⟩
        · rw [kn, c0]
          simp (disch := omega) only [G.f0, j_X11_fact_37, lm1, lm8, lm2, lm1, l0, l1, l2, l3, l4, l5, l6, l7, l8, l9, l10, l11, l12, l13, l14, l15, l16, l17, l18, l19, l20, l21, l22, l23, l24, l25, l27, l31, l32, l40, l46, l48, l50, l57, l59, l63, l86, l96, l97, l100, l110, l114, l122, l127, l200, l255, l300, l319, l320, l340, l441, l456, l580, l600, l800, l886, l1206, l1526, J_add, J_sub, J_mul, J_neg, J_lt, J_le, J_eq, jT, jF, iT, iF, eT, eF, aT, aF, ite_true, ite_false, ite_not, bs]
        · rw [kn, c0]
          simp (disch := omega) only [rc_ok RUg.tag, RUg.facts, j_X12_fact_34, lm1, bI, bN, cond_true, lm8, lm2, lm1, l0, l1, l2, l3, l4, l5, l6, l7, l8, l9, l10, l11, l12, l13, l14, l15, l16, l17, l18, l19, l20, l21, l22, l23, l24, l25, l27, l31, l32, l40, l46, l48, l50, l57, l59, l63, l86, l96, l97, l100, l110, l114, l122, l127, l200, l255, l300, l319, l320, l340, l441, l456, l580, l600, l800, l886, l1206, l1526, J_add, J_sub, J_mul, J_neg, J_lt, J_le, J_eq, jT, jF, iT, iF, eT, eF, aT, aF, ite_true, ite_false, ite_not, bs]
      · have c0' : w < 0 ∨ 0 < w := by omega
        refine ⟨-2, g, ?_, ?_, F⟩
        · rw [kn]
          simp (disch := first | omega | assumption) only [j_X11_fact_37, lm1, lm2, lm8, lm2, lm1, l0, l1, l2, l3, l4, l5, l6, l7, l8, l9, l10, l11, l12, l13, l14, l15, l16, l17, l18, l19, l20, l21, l22, l23, l24, l25, l27, l31, l32, l40, l46, l48, l50, l57, l59, l63, l86, l96, l97, l100, l110, l114, l122, l127, l200, l255, l300, l319, l320, l340, l441, l456, l580, l600, l800, l886, l1206, l1526, J_add, J_sub, J_mul, J_neg, J_lt, J_le, J_eq, jT, jF, iT, iF, eT, eF, aT, aF, ite_true, ite_false, ite_not, bs]
        · rw [kn]
          simp (disch := first | omega | assumption) only [j_X12_fact_34, lm1, lm2, bI, bN, cond_true, lm8, lm2, lm1, l0, l1, l2, l3, l4, l5, l6, l7, l8, l9, l10, l11, l12, l13, l14, l15, l16, l17, l18, l19, l20, l21, l22, l23, l24, l25, l27, l31, l32, l40, l46, l48, l50, l57, l59, l63, l86, l96, l97, l100, l110, l114, l122, l127, l200, l255, l300, l319, l320, l340, l441, l456, l580, l600, l800, l886, l1206, l1526, J_add, J_sub, J_mul, J_neg, J_lt, J_le, J_eq, jT, jF, iT, iF, eT, eF, aT, aF, ite_true, ite_false, ite_not, bs]
    · have kn' : k < -1 ∨ -1 < k := by omega
      have hh := G.has k0 k1
      have em := RUg.facts
      by_cases hk : 0 ≤ k ∧ k < U 0
      · rw [decide_eq_true hk.1, decide_eq_true hk.2, Bool.true_and] at hh
        have ei : m_X12_in (J k) (J 0) (J (U 0 - 1)) g = some (J 1) := X12_in_T (by omega) (by omega) (by omega)
        by_cases hw : 0 ≤ w ∧ w < 3
        · have e2 : m_X12_in (J w) (J 0) (J 2) g = some (J 1) := X12_in_T (by omega) (by omega) (by omega)
          have a1 := G.partOf hk.1 hk.2 hw.1 hw.2
          have a2 := RUg.factOf (k := k) (i := w) (by omega) (by omega)
          generalize U 0 = z at *
          refine ⟨U (1 + 3 * k + w), g, ?_, ?_, F⟩
          · simp (disch := first | omega | assumption) only [rc_ok G.tag, hh, a1, j_X11_fact_68, lm1, bI, bN, cond_true, lm8, lm2, lm1, l0, l1, l2, l3, l4, l5, l6, l7, l8, l9, l10, l11, l12, l13, l14, l15, l16, l17, l18, l19, l20, l21, l22, l23, l24, l25, l27, l31, l32, l40, l46, l48, l50, l57, l59, l63, l86, l96, l97, l100, l110, l114, l122, l127, l200, l255, l300, l319, l320, l340, l441, l456, l580, l600, l800, l886, l1206, l1526, J_add, J_sub, J_mul, J_neg, J_lt, J_le, J_eq, jT, jF, iT, iF, eT, eF, aT, aF, ite_true, ite_false, ite_not, bs]
          · simp (disch := first | omega | assumption) only [rc_ok RUg.tag, em, ei, e2, a2, j_X12_fact_69, lm1, bI, bN, cond_true, lm8, lm2, lm1, l0, l1, l2, l3, l4, l5, l6, l7, l8, l9, l10, l11, l12, l13, l14, l15, l16, l17, l18, l19, l20, l21, l22, l23, l24, l25, l27, l31, l32, l40, l46, l48, l50, l57, l59, l63, l86, l96, l97, l100, l110, l114, l122, l127, l200, l255, l300, l319, l320, l340, l441, l456, l580, l600, l800, l886, l1206, l1526, J_add, J_sub, J_mul, J_neg, J_lt, J_le, J_eq, jT, jF, iT, iF, eT, eF, aT, aF, ite_true, ite_false, ite_not, bs]
        · have e2 : m_X12_in (J w) (J 0) (J 2) g = some (J 0) := X12_in_F (by omega) (by omega) (by omega) (by omega)
          generalize U 0 = z at *
          refine ⟨-2, g, ?_, ?_, F⟩
          · by_cases wn : w < 0
            · simp (disch := first | omega | assumption) only [rc_ok G.tag, hh, j_X11_fact_68, lm1, lm2, bI, bN, cond_true, lm8, lm2, lm1, l0, l1, l2, l3, l4, l5, l6, l7, l8, l9, l10, l11, l12, l13, l14, l15, l16, l17, l18, l19, l20, l21, l22, l23, l24, l25, l27, l31, l32, l40, l46, l48, l50, l57, l59, l63, l86, l96, l97, l100, l110, l114, l122, l127, l200, l255, l300, l319, l320, l340, l441, l456, l580, l600, l800, l886, l1206, l1526, J_add, J_sub, J_mul, J_neg, J_lt, J_le, J_eq, jT, jF, iT, iF, eT, eF, aT, aF, ite_true, ite_false, ite_not, bs]
            · simp (disch := first | omega | assumption) only [rc_ok G.tag, hh, j_X11_fact_68, lm1, lm2, bI, bN, cond_true, lm8, lm2, lm1, l0, l1, l2, l3, l4, l5, l6, l7, l8, l9, l10, l11, l12, l13, l14, l15, l16, l17, l18, l19, l20, l21, l22, l23, l24, l25, l27, l31, l32, l40, l46, l48, l50, l57, l59, l63, l86, l96, l97, l100, l110, l114, l122, l127, l200, l255, l300, l319, l320, l340, l441, l456, l580, l600, l800, l886, l1206, l1526, J_add, J_sub, J_mul, J_neg, J_lt, J_le, J_eq, jT, jF, iT, iF, eT, eF, aT, aF, ite_true, ite_false, ite_not, bs]
          · simp (disch := first | omega | assumption) only [rc_ok RUg.tag, em, ei, e2, j_X12_fact_69, lm1, lm2, bI, bN, cond_true, lm8, lm2, lm1, l0, l1, l2, l3, l4, l5, l6, l7, l8, l9, l10, l11, l12, l13, l14, l15, l16, l17, l18, l19, l20, l21, l22, l23, l24, l25, l27, l31, l32, l40, l46, l48, l50, l57, l59, l63, l86, l96, l97, l100, l110, l114, l122, l127, l200, l255, l300, l319, l320, l340, l441, l456, l580, l600, l800, l886, l1206, l1526, J_add, J_sub, J_mul, J_neg, J_lt, J_le, J_eq, jT, jF, iT, iF, eT, eF, aT, aF, ite_true, ite_false, ite_not, bs]
      · rw [and_no hk] at hh
        have ei : m_X12_in (J k) (J 0) (J (U 0 - 1)) g = some (J 0) := X12_in_F (by omega) (by omega) (by omega) (by omega)
        generalize U 0 = z at *
        refine ⟨-2, g, ?_, ?_, F⟩
        · simp (disch := first | omega | assumption) only [rc_ok G.tag, hh, j_X11_fact_68, lm1, lm2, bI, bN, cond_false, lm8, lm2, lm1, l0, l1, l2, l3, l4, l5, l6, l7, l8, l9, l10, l11, l12, l13, l14, l15, l16, l17, l18, l19, l20, l21, l22, l23, l24, l25, l27, l31, l32, l40, l46, l48, l50, l57, l59, l63, l86, l96, l97, l100, l110, l114, l122, l127, l200, l255, l300, l319, l320, l340, l441, l456, l580, l600, l800, l886, l1206, l1526, J_add, J_sub, J_mul, J_neg, J_lt, J_le, J_eq, jT, jF, iT, iF, eT, eF, aT, aF, ite_true, ite_false, ite_not, bs]
        · simp (disch := first | omega | assumption) only [rc_ok RUg.tag, em, ei, j_X12_fact_69, lm1, lm2, bI, bN, cond_true, lm8, lm2, lm1, l0, l1, l2, l3, l4, l5, l6, l7, l8, l9, l10, l11, l12, l13, l14, l15, l16, l17, l18, l19, l20, l21, l22, l23, l24, l25, l27, l31, l32, l40, l46, l48, l50, l57, l59, l63, l86, l96, l97, l100, l110, l114, l122, l127, l200, l255, l300, l319, l320, l340, l441, l456, l580, l600, l800, l886, l1206, l1526, J_add, J_sub, J_mul, J_neg, J_lt, J_le, J_eq, jT, jF, iT, iF, eT, eF, aT, aF, ite_true, ite_false, ite_not, bs]
  · have c' : ndB S 2 q = false := by simpa using c
    rw [if_neg c, c']
    exact ⟨-2, g, rfl, if_neg (fun q => q rfl), F⟩
theorem J_low (a : Int) : J (a + 4294967296) = J a := by
  rw [← J_add, show J 4294967296 = 0 from by decide, Int32.add_zero]
theorem SBo.fits (M : SBo h x o S) {w : Int} (a0 : -2147483648 ≤ a) (a1 : a < 2147483648) (q0 : -2147483648 ≤ q) (q1 : q < 2147483648) (w0 : -2147483648 ≤ w) (w1 : w < 2147483648) : Qy h x o (m_X11_fits x (J a) (J q) (J w) h) (m_X12_fits o (J a) (J q) (J w)) := by
  obtain ⟨g1, e1, F1, M1, R1⟩ := M.huntIn q0 q1
  obtain ⟨g2, e2, F3, R2⟩ := M1.2.2.1.hand M1.2.2.2.1 a0 a1
  have F3' : FR (Asc x o) g1 g2 := F3.mono (fun b k q => by unfold AHd at q; unfold Asc; omega)
  unfold Qy m_X11_fits m_X12_fits
  rw [M.au2 a0 a1 q0 q1, e1]
  cases cq : ndB S 2 q
  · rw [Bool.and_false]
    exact ⟨-2, g1, rfl, if_pos rfl, F1⟩
  · rw [Bool.and_true]
    have st : ∀ {α : Type} (N E : Option α), (if (J (b01 true), g1).1 = 0 then N else E) = E := fun N E => if_neg (show ¬ (J (b01 true) : Int32) = 0 by decide)
    rw [st]
    have rc1 : hTag (J (b01 true), g1).2 o = 12 := M1.2.2.1.1.tag
    rw [rc_ok rc1]
    rw [show m_X12_hand o (J a) (J (b01 true), g1).2 = some (J (b01 (ndB S 0 a)), g2) from e2, bs]
    cases ca : ndB S 0 a
    · exact ⟨-2, g2, rfl, if_neg (fun q => q rfl), F1.trans F3'⟩
    · rw [if_pos rfl]
      have RMg := R2 ca
      have RUg := (R1 cq).frame F3 (by unfold AHd; omega) (fun k => by unfold AHd; omega)
      obtain ⟨k, k0, k1, ke, kk⟩ : ∃ k : Int, -2147483648 ≤ k ∧ k < 2147483648 ∧ J (w - 10) = J k ∧ (10 ≤ w → k = w - 10) := by
        by_cases wl : w < -2147483638
        · exact ⟨w - 10 + 4294967296, by omega, by omega, (J_low _).symm, fun q => by omega⟩
        · exact ⟨w - 10, by omega, by omega, rfl, fun _ => rfl⟩
      obtain ⟨g3, e3, F4, W3⟩ := RMg.findWords RUg (k := k) k0 k1
      rw [← ke] at e3
      have F4' : FR (Asc x o) g2 g3 := F4.mono (fun b k q => by unfold AFw AFt ALw at q; unfold Asc; omega)
      have F04 := (F1.trans F3').trans F4'
      have RM3 : RM g3 o (sT S a) := RMg.frame F4 (by unfold AFw AFt ALw; omega) (fun k => by unfold AFw AFt ALw; omega)
      obtain ⟨C, D, W⟩ := M.arch ca
      obtain ⟨G, WU, -⟩ := M.us cq
      have f31 : gfI g3 o 12 31 = some (J (fcT (sT S a) (sU S q) (wcT (sT S a)))) := by rw [gfI_ok RM3.tag]; exact congrArg (fun z => some (J z)) W3.1
      have f32 : gfI g3 o 12 32 = some (J (faT (sT S a) (sU S q) (wcT (sT S a)) k)) := by rw [gfI_ok RM3.tag]; exact congrArg (fun z => some (J z)) W3.2.1
      generalize x + 8 + 17 * a.toNat = o1 at *
      generalize x + 23 + 17 * q.toNat = o2 at *
      by_cases c0 : w = 0
      · obtain ⟨y, pv, qv⟩ : ∃ y, m_X3_fitting o2 o1 h = some (J y) ∧ gfI g3 o 12 31 = some (J y) := ⟨_, G.fitting C W, f31⟩
        rw [c0] at e3
        refine ⟨y, g3, ?_, ?_, F04⟩
        · rw [c0]
          simp (disch := omega) only [rc_ok G.tag, pv, lm8, lm2, lm1, l0, l1, l2, l3, l4, l5, l6, l7, l8, l9, l10, l11, l12, l13, l14, l15, l16, l17, l18, l19, l20, l21, l22, l23, l24, l25, l27, l31, l32, l40, l46, l48, l50, l57, l59, l63, l86, l96, l97, l100, l110, l114, l122, l127, l200, l255, l300, l319, l320, l340, l441, l456, l580, l600, l800, l886, l1206, l1526, J_add, J_sub, J_mul, J_neg, J_lt, J_le, J_eq, jT, jF, iT, iF, eT, eF, aT, aF, ite_true, ite_false, ite_not, bs]
        · rw [c0]
          simp (disch := omega) only [rc_ok RMg.tag, e3, qv, bI, bN, cond_true, lm8, lm2, lm1, l0, l1, l2, l3, l4, l5, l6, l7, l8, l9, l10, l11, l12, l13, l14, l15, l16, l17, l18, l19, l20, l21, l22, l23, l24, l25, l27, l31, l32, l40, l46, l48, l50, l57, l59, l63, l86, l96, l97, l100, l110, l114, l122, l127, l200, l255, l300, l319, l320, l340, l441, l456, l580, l600, l800, l886, l1206, l1526, J_add, J_sub, J_mul, J_neg, J_lt, J_le, J_eq, jT, jF, iT, iF, eT, eF, aT, aF, ite_true, ite_false, ite_not, bs]
      · have c0' : w < 0 ∨ 0 < w := by omega
        by_cases c1 : w = 1
        · obtain ⟨y, pv, qv⟩ : ∃ y, m_X3_sureLetter o2 o1 h = some (J y) ∧ m_X12_sureLetter o g3 = some (J y) := ⟨_, G.sureLetter C W, RM3.sureLetter W3⟩
          rw [c1] at e3
          refine ⟨y, g3, ?_, ?_, F04⟩
          · rw [c1]
            simp (disch := omega) only [rc_ok G.tag, pv, lm8, lm2, lm1, l0, l1, l2, l3, l4, l5, l6, l7, l8, l9, l10, l11, l12, l13, l14, l15, l16, l17, l18, l19, l20, l21, l22, l23, l24, l25, l27, l31, l32, l40, l46, l48, l50, l57, l59, l63, l86, l96, l97, l100, l110, l114, l122, l127, l200, l255, l300, l319, l320, l340, l441, l456, l580, l600, l800, l886, l1206, l1526, J_add, J_sub, J_mul, J_neg, J_lt, J_le, J_eq, jT, jF, iT, iF, eT, eF, aT, aF, ite_true, ite_false, ite_not, bs]
          · rw [c1]
            simp (disch := omega) only [rc_ok RMg.tag, e3, rc_ok RM3.tag, qv, bI, bN, cond_true, lm8, lm2, lm1, l0, l1, l2, l3, l4, l5, l6, l7, l8, l9, l10, l11, l12, l13, l14, l15, l16, l17, l18, l19, l20, l21, l22, l23, l24, l25, l27, l31, l32, l40, l46, l48, l50, l57, l59, l63, l86, l96, l97, l100, l110, l114, l122, l127, l200, l255, l300, l319, l320, l340, l441, l456, l580, l600, l800, l886, l1206, l1526, J_add, J_sub, J_mul, J_neg, J_lt, J_le, J_eq, jT, jF, iT, iF, eT, eF, aT, aF, ite_true, ite_false, ite_not, bs]
        · have c1' : w < 1 ∨ 1 < w := by omega
          by_cases c2 : w = 2
          · obtain ⟨y, pv, qv⟩ : ∃ y, m_X3_askVersion o2 o1 h = some (J y) ∧ m_X12_askWhere o g3 = some (J y) := ⟨_, G.askVersion C W, RM3.askWhere W3⟩
            rw [c2] at e3
            refine ⟨y, g3, ?_, ?_, F04⟩
            · rw [c2]
              simp (disch := omega) only [rc_ok G.tag, pv, lm8, lm2, lm1, l0, l1, l2, l3, l4, l5, l6, l7, l8, l9, l10, l11, l12, l13, l14, l15, l16, l17, l18, l19, l20, l21, l22, l23, l24, l25, l27, l31, l32, l40, l46, l48, l50, l57, l59, l63, l86, l96, l97, l100, l110, l114, l122, l127, l200, l255, l300, l319, l320, l340, l441, l456, l580, l600, l800, l886, l1206, l1526, J_add, J_sub, J_mul, J_neg, J_lt, J_le, J_eq, jT, jF, iT, iF, eT, eF, aT, aF, ite_true, ite_false, ite_not, bs]
            · rw [c2]
              simp (disch := omega) only [rc_ok RMg.tag, e3, rc_ok RM3.tag, qv, bI, bN, cond_true, lm8, lm2, lm1, l0, l1, l2, l3, l4, l5, l6, l7, l8, l9, l10, l11, l12, l13, l14, l15, l16, l17, l18, l19, l20, l21, l22, l23, l24, l25, l27, l31, l32, l40, l46, l48, l50, l57, l59, l63, l86, l96, l97, l100, l110, l114, l122, l127, l200, l255, l300, l319, l320, l340, l441, l456, l580, l600, l800, l886, l1206, l1526, J_add, J_sub, J_mul, J_neg, J_lt, J_le, J_eq, jT, jF, iT, iF, eT, eF, aT, aF, ite_true, ite_false, ite_not, bs]
          · have c2' : w < 2 ∨ 2 < w := by omega
            by_cases c10 : w < 10
            · refine ⟨-2, g3, ?_, ?_, F04⟩
              · simp (disch := first | omega | assumption) only [j_X11_fits_106, lm2, lm8, lm2, lm1, l0, l1, l2, l3, l4, l5, l6, l7, l8, l9, l10, l11, l12, l13, l14, l15, l16, l17, l18, l19, l20, l21, l22, l23, l24, l25, l27, l31, l32, l40, l46, l48, l50, l57, l59, l63, l86, l96, l97, l100, l110, l114, l122, l127, l200, l255, l300, l319, l320, l340, l441, l456, l580, l600, l800, l886, l1206, l1526, J_add, J_sub, J_mul, J_neg, J_lt, J_le, J_eq, jT, jF, iT, iF, eT, eF, aT, aF, ite_true, ite_false, ite_not, bs]
              · simp (disch := first | omega | assumption) only [rc_ok RMg.tag, e3, lm2, bI, bN, cond_true, lm8, lm2, lm1, l0, l1, l2, l3, l4, l5, l6, l7, l8, l9, l10, l11, l12, l13, l14, l15, l16, l17, l18, l19, l20, l21, l22, l23, l24, l25, l27, l31, l32, l40, l46, l48, l50, l57, l59, l63, l86, l96, l97, l100, l110, l114, l122, l127, l200, l255, l300, l319, l320, l340, l441, l456, l580, l600, l800, l886, l1206, l1526, J_add, J_sub, J_mul, J_neg, J_lt, J_le, J_eq, jT, jF, iT, iF, eT, eF, aT, aF, ite_true, ite_false, ite_not, bs]
            · rw [kk (by omega)] at f32
              obtain ⟨y, pv, qv⟩ : ∃ y, m_X3_fittingAt o2 o1 (J (w - 10)) h = some (J y) ∧ gfI g3 o 12 32 = some (J y) := ⟨_, G.fittingAt C W (by omega) (by omega), f32⟩
              refine ⟨y, g3, ?_, ?_, F04⟩
              · simp (disch := first | omega | assumption) only [rc_ok G.tag, pv, j_X11_fits_106, lm8, lm2, lm1, l0, l1, l2, l3, l4, l5, l6, l7, l8, l9, l10, l11, l12, l13, l14, l15, l16, l17, l18, l19, l20, l21, l22, l23, l24, l25, l27, l31, l32, l40, l46, l48, l50, l57, l59, l63, l86, l96, l97, l100, l110, l114, l122, l127, l200, l255, l300, l319, l320, l340, l441, l456, l580, l600, l800, l886, l1206, l1526, J_add, J_sub, J_mul, J_neg, J_lt, J_le, J_eq, jT, jF, iT, iF, eT, eF, aT, aF, ite_true, ite_false, ite_not, bs]
              · simp (disch := first | omega | assumption) only [rc_ok RMg.tag, e3, qv, bI, bN, cond_true, lm8, lm2, lm1, l0, l1, l2, l3, l4, l5, l6, l7, l8, l9, l10, l11, l12, l13, l14, l15, l16, l17, l18, l19, l20, l21, l22, l23, l24, l25, l27, l31, l32, l40, l46, l48, l50, l57, l59, l63, l86, l96, l97, l100, l110, l114, l122, l127, l200, l255, l300, l319, l320, l340, l441, l456, l580, l600, l800, l886, l1206, l1526, J_add, J_sub, J_mul, J_neg, J_lt, J_le, J_eq, jT, jF, iT, iF, eT, eF, aT, aF, ite_true, ite_false, ite_not, bs]
end MQ6
