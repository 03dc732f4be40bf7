/-! PURE PART: faults noted, both sides -/
/-- fault s at p (none where s is 0) and one more: the least place, then the least sort -/
def noF (s p s' p' : Int) : Int × Int := if s = 0 ∨ p' < p ∨ (p' = p ∧ s' < s) then (s', p') else (s, p)
section NO
variable {h : Hp} {o r : Nat}
theorem X7_note_ok (ht : hTag h r = 7) {s p s' p' : Int} (hs : hE h r 4 = s) (hp : hE h r 5 = p) (s0 : -2147483648 ≤ s') (s1 : s' < 2147483648) (p0 : -2147483648 ≤ p') (p1 : p' < 2147483648) : ∃ h', m_X7_note r (J s') (J p') h = some h' ∧ FR (fun b k => b = r ∧ (k = 4 ∨ k = 5)) h h' ∧ hE h' r 4 = (noF s p s' p').1 ∧ hE h' r 5 = (noF s p s' p').2 := by
  have r4 := hE_rg h r 4
  have r5 := hE_rg h r 5
  rw [hs] at r4
  rw [hp] at r5
  have e4 : gfI h r 7 4 = some (J s) := by rw [gfI_ok ht]; exact congrArg (fun z => some (J z)) hs
  have e5 : gfI h r 7 5 = some (J p) := by rw [gfI_ok ht]; exact congrArg (fun z => some (J z)) hp
  have q4 : pfI h r 7 4 (J s') = some (wE h r 4 s') := pfI_ok ht
  have q5 : pfI (wE h r 4 s') r 7 5 (J p') = some (wE (wE h r 4 s') r 5 p') := pfI_ok ht
  by_cases c : s = 0 ∨ p' < p ∨ (p' = p ∧ s' < s)
  · have en : noF s p s' p' = (s', p') := if_pos c
    rw [en]
    refine ⟨wE (wE h r 4 s') r 5 p', ?_, (FR.wE (A := fun b k => b = r ∧ (k = 4 ∨ k = 5)) ⟨rfl, Or.inl rfl⟩).trans (FR.wE (A := fun b k => b = r ∧ (k = 4 ∨ k = 5)) ⟨rfl, Or.inr rfl⟩), ?_, ?_⟩
    · by_cases c1 : s = 0
      · simp (disch := omega) only [m_X7_note, j_X7_note_31, e4, q4, q5, lm8, lm2, lm1, l0, l1, l2, l3, l4, l5, l6, l7, l8, l9, l10, l11, l12, l13, l14, l15, l16, l17, l18, l19, l20, l21, l22, l23, l24, l25, l27, l31, l32, l40, l46, l48, l50, l57, l59, l63, l86, l96, l97, l100, l110, l114, l122, l127, l200, l255, l300, l319, l320, l340, l441, l456, l580, l600, l800, l886, l1206, l1526, J_add, J_sub, J_mul, J_neg, J_lt, J_le, J_eq, jT, jF, iT, iF, eT, eF, aT, aF, ite_true, ite_false, ite_not, bs]
      · have c1' : s < 0 ∨ 0 < s := by omega
        by_cases c2 : p' < p
        · simp (disch := first | omega | exact c1') only [m_X7_note, j_X7_note_31, e4, e5, q4, q5, lm8, lm2, lm1, l0, l1, l2, l3, l4, l5, l6, l7, l8, l9, l10, l11, l12, l13, l14, l15, l16, l17, l18, l19, l20, l21, l22, l23, l24, l25, l27, l31, l32, l40, l46, l48, l50, l57, l59, l63, l86, l96, l97, l100, l110, l114, l122, l127, l200, l255, l300, l319, l320, l340, l441, l456, l580, l600, l800, l886, l1206, l1526, J_add, J_sub, J_mul, J_neg, J_lt, J_le, J_eq, jT, jF, iT, iF, eT, eF, aT, aF, ite_true, ite_false, ite_not, bs]
        · simp (disch := first | omega | exact c1') only [m_X7_note, j_X7_note_31, e4, e5, q4, q5, lm8, lm2, lm1, l0, l1, l2, l3, l4, l5, l6, l7, l8, l9, l10, l11, l12, l13, l14, l15, l16, l17, l18, l19, l20, l21, l22, l23, l24, l25, l27, l31, l32, l40, l46, l48, l50, l57, l59, l63, l86, l96, l97, l100, l110, l114, l122, l127, l200, l255, l300, l319, l320, l340, l441, l456, l580, l600, l800, l886, l1206, l1526, J_add, J_sub, J_mul, J_neg, J_lt, J_le, J_eq, jT, jF, iT, iF, eT, eF, aT, aF, ite_true, ite_false, ite_not, bs]
    · rw [hE_wE (by omega) (by omega) p0 p1, if_neg (by omega), hE_wE (by omega) (by omega) s0 s1, if_pos ⟨rfl, rfl⟩]
    · rw [hE_wE (by omega) (by omega) p0 p1, if_pos ⟨rfl, rfl⟩]
  · have en : noF s p s' p' = (s, p) := if_neg c
    rw [en]
    refine ⟨h, ?_, FR.refl _ _, hs, hp⟩
    have c1 : s < 0 ∨ 0 < s := by omega
    by_cases c2 : p' = p
    · simp (disch := first | omega | exact c1) only [m_X7_note, e4, e5, lm8, lm2, lm1, l0, l1, l2, l3, l4, l5, l6, l7, l8, l9, l10, l11, l12, l13, l14, l15, l16, l17, l18, l19, l20, l21, l22, l23, l24, l25, l27, l31, l32, l40, l46, l48, l50, l57, l59, l63, l86, l96, l97, l100, l110, l114, l122, l127, l200, l255, l300, l319, l320, l340, l441, l456, l580, l600, l800, l886, l1206, l1526, J_add, J_sub, J_mul, J_neg, J_lt, J_le, J_eq, jT, jF, iT, iF, eT, eF, aT, aF, ite_true, ite_false, ite_not, bs]
    · have c2' : p' < p ∨ p < p' := by omega
      simp (disch := first | omega | exact c1 | exact c2') only [m_X7_note, e4, e5, lm8, lm2, lm1, l0, l1, l2, l3, l4, l5, l6, l7, l8, l9, l10, l11, l12, l13, l14, l15, l16, l17, l18, l19, l20, l21, l22, l23, l24, l25, l27, l31, l32, l40, l46, l48, l50, l57, l59, l63, l86, l96, l97, l100, l110, l114, l122, l127, l200, l255, l300, l319, l320, l340, l441, l456, l580, l600, l800, l886, l1206, l1526, J_add, J_sub, J_mul, J_neg, J_lt, J_le, J_eq, jT, jF, iT, iF, eT, eF, aT, aF, ite_true, ite_false, ite_not, bs]
theorem X12_addsFault_ok (ht : hTag h o = 12) {s p s' p' : Int} (hs : hE h o 16 = s) (hp : hE h o 17 = p) (s0 : -2147483648 ≤ s') (s1 : s' < 2147483648) (p0 : -2147483648 ≤ p') (p1 : p' < 2147483648) : ∃ h', m_X12_addsFault o (J s') (J p') h = some h' ∧ FR (fun b k => b = o ∧ (k = 16 ∨ k = 17)) h h' ∧ hE h' o 16 = (noF s p s' p').1 ∧ hE h' o 17 = (noF s p s' p').2 := by
  have r4 := hE_rg h o 16
  have r5 := hE_rg h o 17
  rw [hs] at r4
  rw [hp] at r5
  have e4 : gfI h o 12 16 = some (J s) := by rw [gfI_ok ht]; exact congrArg (fun z => some (J z)) hs
  have e5 : gfI h o 12 17 = some (J p) := by rw [gfI_ok ht]; exact congrArg (fun z => some (J z)) hp
  have q4 : pfI h o 12 16 (J s') = some (wE h o 16 s') := pfI_ok ht
  have q5 : pfI (wE h o 16 s') o 12 17 (J p') = some (wE (wE h o 16 s') o 17 p') := pfI_ok ht
  by_cases c : s = 0 ∨ p' < p ∨ (p' = p ∧ s' < s)
  · have en : noF s p s' p' = (s', p') := if_pos c
    rw [en]
    refine ⟨wE (wE h o 16 s') o 17 p', ?_, (FR.wE (A := fun b k => b = o ∧ (k = 16 ∨ k = 17)) ⟨rfl, Or.inl rfl⟩).trans (FR.wE (A := fun b k => b = o ∧ (k = 16 ∨ k = 17)) ⟨rfl, Or.inr rfl⟩), ?_, ?_⟩
    · by_cases c1 : s = 0
      · simp (disch := omega) only [m_X12_addsFault, j_X12_addsFault_31, e4, q4, q5, lm8, lm2, lm1, l0, l1, l2, l3, l4, l5, l6, l7, l8, l9, l10, l11, l12, l13, l14, l15, l16, l17, l18, l19, l20, l21, l22, l23, l24, l25, l27, l31, l32, l40, l46, l48, l50, l57, l59, l63, l86, l96, l97, l100, l110, l114, l122, l127, l200, l255, l300, l319, l320, l340, l441, l456, l580, l600, l800, l886, l1206, l1526, J_add, J_sub, J_mul, J_neg, J_lt, J_le, J_eq, jT, jF, iT, iF, eT, eF, aT, aF, ite_true, ite_false, ite_not, bs]
      · have c1' : s < 0 ∨ 0 < s := by omega
        by_cases c2 : p' < p
        · simp (disch := first | omega | exact c1') only [m_X12_addsFault, j_X12_addsFault_31, e4, e5, q4, q5, lm8, lm2, lm1, l0, l1, l2, l3, l4, l5, l6, l7, l8, l9, l10, l11, l12, l13, l14, l15, l16, l17, l18, l19, l20, l21, l22, l23, l24, l25, l27, l31, l32, l40, l46, l48, l50, l57, l59, l63, l86, l96, l97, l100, l110, l114, l122, l127, l200, l255, l300, l319, l320, l340, l441, l456, l580, l600, l800, l886, l1206, l1526, J_add, J_sub, J_mul, J_neg, J_lt, J_le, J_eq, jT, jF, iT, iF, eT, eF, aT, aF, ite_true, ite_false, ite_not, bs]
        · simp (disch := first | omega | exact c1') only [m_X12_addsFault, j_X12_addsFault_31, e4, e5, q4, q5, lm8, lm2, lm1, l0, l1, l2, l3, l4, l5, l6, l7, l8, l9, l10, l11, l12, l13, l14, l15, l16, l17, l18, l19, l20, l21, l22, l23, l24, l25, l27, l31, l32, l40, l46, l48, l50, l57, l59, l63, l86, l96, l97, l100, l110, l114, l122, l127, l200, l255, l300, l319, l320, l340, l441, l456, l580, l600, l800, l886, l1206, l1526, J_add, J_sub, J_mul, J_neg, J_lt, J_le, J_eq, jT, jF, iT, iF, eT, eF, aT, aF, ite_true, ite_false, ite_not, bs]
    · rw [hE_wE (by omega) (by omega) p0 p1, if_neg (by omega), hE_wE (by omega) (by omega) s0 s1, if_pos ⟨rfl, rfl⟩]
    · rw [hE_wE (by omega) (by omega) p0 p1, if_pos ⟨rfl, rfl⟩]
  · have en : noF s p s' p' = (s, p) := if_neg c
    rw [en]
    refine ⟨h, ?_, FR.refl _ _, hs, hp⟩
    have c1 : s < 0 ∨ 0 < s := by omega
    by_cases c2 : p' = p
    · simp (disch := first | omega | exact c1) only [m_X12_addsFault, e4, e5, lm8, lm2, lm1, l0, l1, l2, l3, l4, l5, l6, l7, l8, l9, l10, l11, l12, l13, l14, l15, l16, l17, l18, l19, l20, l21, l22, l23, l24, l25, l27, l31, l32, l40, l46, l48, l50, l57, l59, l63, l86, l96, l97, l100, l110, l114, l122, l127, l200, l255, l300, l319, l320, l340, l441, l456, l580, l600, l800, l886, l1206, l1526, J_add, J_sub, J_mul, J_neg, J_lt, J_le, J_eq, jT, jF, iT, iF, eT, eF, aT, aF, ite_true, ite_false, ite_not, bs]
    · have c2' : p' < p ∨ p < p' := by omega
      simp (disch := first | omega | exact c1 | exact c2') only [m_X12_addsFault, e4, e5, lm8, lm2, lm1, l0, l1, l2, l3, l4, l5, l6, l7, l8, l9, l10, l11, l12, l13, l14, l15, l16, l17, l18, l19, l20, l21, l22, l23, l24, l25, l27, l31, l32, l40, l46, l48, l50, l57, l59, l63, l86, l96, l97, l100, l110, l114, l122, l127, l200, l255, l300, l319, l320, l340, l441, l456, l580, l600, l800, l886, l1206, l1526, J_add, J_sub, J_mul, J_neg, J_lt, J_le, J_eq, jT, jF, iT, iF, eT, eF, aT, aF, ite_true, ite_false, ite_not, bs]
end NO
