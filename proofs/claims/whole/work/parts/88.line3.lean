/-! PURE PART: what a line doesn't take, the class -/
section L3
variable {h : Hp} {l a : Nat} {B : Int → Int} {L nn nw f t : Int} {v vp sp wp : Int → Int}
theorem X4_noNumber (H : CT h a B L) {c : Int} (h2 : hE h a 2 = c) (c0 : 0 ≤ c ∧ c ≤ 4) (hc : c ≠ 2) : m_X4_takesNumber l a h = some (J 0, h) := by
  have e2 := H.f2 h2
  have hc' : c < 2 ∨ 2 < c := by omega
  simp (disch := first | omega | exact hc') only [m_X4_takesNumber, e2, lm8, lm2, lm1, l0, l1, l2, l3, l4, l5, l6, l7, l8, l9, l10, l11, l12, l13, l14, l15, l16, l17, l18, l19, l20, l21, l22, l23, l24, l25, l27, l31, l32, l40, l46, l48, l50, l57, l59, l63, l86, l96, l97, l100, l110, l114, l122, l127, l200, l255, l300, l319, l320, l340, l441, l456, l580, l600, l800, l886, l1206, l1526, J_add, J_sub, J_mul, J_neg, J_lt, J_le, J_eq, jT, jF, iT, iF, eT, eF, aT, aF, ite_true, ite_false, ite_not, bs]
theorem X4_noWord (H : CT h a B L) {c : Int} (h2 : hE h a 2 = c) (c0 : 0 ≤ c ∧ c ≤ 4) (hc : c ≠ 1) : m_X4_takesWord l a h = some (J 0, h) := by
  have e2 := H.f2 h2
  have hc' : c < 1 ∨ 1 < c := by omega
  simp (disch := first | omega | exact hc') only [m_X4_takesWord, e2, lm8, lm2, lm1, l0, l1, l2, l3, l4, l5, l6, l7, l8, l9, l10, l11, l12, l13, l14, l15, l16, l17, l18, l19, l20, l21, l22, l23, l24, l25, l27, l31, l32, l40, l46, l48, l50, l57, l59, l63, l86, l96, l97, l100, l110, l114, l122, l127, l200, l255, l300, l319, l320, l340, l441, l456, l580, l600, l800, l886, l1206, l1526, J_add, J_sub, J_mul, J_neg, J_lt, J_le, J_eq, jT, jF, iT, iF, eT, eF, aT, aF, ite_true, ite_false, ite_not, bs]
/-- a word taken, and where the first misspelt one stands -/
theorem CL.word (C : CL h l nn nw v vp sp wp) (H : CT h a B L) (hal : a < l ∨ l + 4 < a) (hal2 : a + 1 < l ∨ l + 4 < a + 1) (n2 : nw < 700) {m : Int} (hm : hE h l 4 = m) (hm0 : -1 ≤ m) (h2 : hE h a 2 = 1) (h3 : hE h a 3 = f) (h4 : hE h a 4 = t) (f0 : 0 ≤ f) (tL : t ≤ L) (ft : f ≤ t) (hv : sp nw = spF B f t) (hvp : wp nw = f) (hrg : -2147483648 ≤ sp nw ∧ sp nw < 2147483648) : ∃ h', m_X4_takesWord l a h = some (J 1, h') ∧ FR (fun b k => ALn l b k ∨ ATk a b k) h h' ∧ CL h' l nn (nw + 1) v vp sp wp ∧ hE h' l 4 = (if 4 < t - f ∧ m = -1 then f else m) ∧ hE h' a 2 = ckF B L (frF B L t) ∧ hE h' a 3 = frF B L t ∧ hE h' a 4 = toF B L (frF B L t) := by
  have hL := H.2.1.2.1
  have mr := hE_rg h l 4
  rw [hm] at mr
  have e2 := H.f2 h2
  have e3 := H.f3 h3
  have ew := H.isWord h2 h3 h4 f0 (by omega) ft
  have e4 : gfI h l 5 4 = some (J m) := by rw [gfI_ok C.tag]; exact congrArg (fun z => some (J z)) hm
  by_cases c : 4 < t - f
  · rw [decide_eq_false (by omega)] at ew
    by_cases cm : m = -1
    · rw [if_pos ⟨c, cm⟩]
      rw [cm] at e4
      have p4 : pfI h l 5 4 (J f) = some (wE h l 4 f) := pfI_ok C.tag
      have F1 : FR (fun b k => b = l ∧ k = 4) h (wE h l 4 f) := FR.wE (A := fun b k => b = l ∧ k = 4) ⟨rfl, rfl⟩
      have H1 : CT (wE h l 4 f) a B L := H.frame F1 (by omega) (fun k => by omega)
      have C1 : CL (wE h l 4 f) l nn nw v vp sp wp := by
        obtain ⟨c1, c2, c3, c4, c5, c6, c7⟩ := C
        refine ⟨by rw [F1.1]; exact c1, c2, c3, by rw [F1.e (fun q => absurd q.2 (by decide)), c4], by rw [F1.e (fun q => absurd q.2 (by decide)), c5], fun i i0 i1 => ?_, fun i i0 i1 i2 => ?_⟩
        · rw [F1.e (fun q => by omega), F1.e (fun q => by omega)]
          exact c6 i i0 i1
        · rw [F1.e (fun q => by omega), F1.e (fun q => by omega)]
          exact c7 i i0 i1 i2
      obtain ⟨h', a1, a2, a3, a4, a5⟩ := C1.word33 H1 hal hal2 n2 (by rw [F1.e (fun q => by omega), h3]) (by rw [F1.e (fun q => by omega), h4]) f0 tL ft hv hvp hrg
      refine ⟨h', ?_, (F1.mono (fun b k q => Or.inl (Or.inl ⟨q.1, Or.inr (Or.inr q.2)⟩))).trans a2, a3, ?_, a5⟩
      · simp (disch := omega) only [m_X4_takesWord, e2, rc_ok H.tag, ew, bN, cond_false, e4, e3, p4, lm8, lm2, lm1, l0, l1, l2, l3, l4, l5, l6, l7, l8, l9, l10, l11, l12, l13, l14, l15, l16, l17, l18, l19, l20, l21, l22, l23, l24, l25, l27, l31, l32, l40, l46, l48, l50, l57, l59, l63, l86, l96, l97, l100, l110, l114, l122, l127, l200, l255, l300, l319, l320, l340, l441, l456, l580, l600, l800, l886, l1206, l1526, J_add, J_sub, J_mul, J_neg, J_lt, J_le, J_eq, jT, jF, iT, iF, eT, eF, aT, aF, ite_true, ite_false, ite_not, bs]
        exact a1
      · rw [a4, hE_wE (by omega) (by omega) (by omega) (by omega), if_pos ⟨rfl, rfl⟩]
    · rw [if_neg (fun q => cm q.2)]
      have cm' : m < -1 ∨ -1 < m := by omega
      obtain ⟨h', a1, a2, a3, a4, a5⟩ := C.word33 H hal hal2 n2 h3 h4 f0 tL ft hv hvp hrg
      refine ⟨h', ?_, a2, a3, by rw [a4, hm], a5⟩
      simp (disch := first | omega | exact cm') only [m_X4_takesWord, e2, rc_ok H.tag, ew, bN, cond_false, e4, lm8, lm2, lm1, l0, l1, l2, l3, l4, l5, l6, l7, l8, l9, l10, l11, l12, l13, l14, l15, l16, l17, l18, l19, l20, l21, l22, l23, l24, l25, l27, l31, l32, l40, l46, l48, l50, l57, l59, l63, l86, l96, l97, l100, l110, l114, l122, l127, l200, l255, l300, l319, l320, l340, l441, l456, l580, l600, l800, l886, l1206, l1526, J_add, J_sub, J_mul, J_neg, J_lt, J_le, J_eq, jT, jF, iT, iF, eT, eF, aT, aF, ite_true, ite_false, ite_not, bs]
      exact a1
  · rw [decide_eq_true (by omega)] at ew
    rw [if_neg (fun q => c q.1)]
    obtain ⟨h', a1, a2, a3, a4, a5⟩ := C.word33 H hal hal2 n2 h3 h4 f0 tL ft hv hvp hrg
    refine ⟨h', ?_, a2, a3, by rw [a4, hm], a5⟩
    simp (disch := omega) only [m_X4_takesWord, e2, rc_ok H.tag, ew, bN, cond_true, lm8, lm2, lm1, l0, l1, l2, l3, l4, l5, l6, l7, l8, l9, l10, l11, l12, l13, l14, l15, l16, l17, l18, l19, l20, l21, l22, l23, l24, l25, l27, l31, l32, l40, l46, l48, l50, l57, l59, l63, l86, l96, l97, l100, l110, l114, l122, l127, l200, l255, l300, l319, l320, l340, l441, l456, l580, l600, l800, l886, l1206, l1526, J_add, J_sub, J_mul, J_neg, J_lt, J_le, J_eq, jT, jF, iT, iF, eT, eF, aT, aF, ite_true, ite_false, ite_not, bs]
    exact a1
end L3
