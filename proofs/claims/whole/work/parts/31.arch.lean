/-! PURE PART: the class's archive, its reads -/
/-- an Archive's shape: its rows lie behind it -/
def TA (t : Tp) (o : Nat) : Prop := t.1 o = 1 ∧ (t.2.2 o 3 = o + 1 ∧ TI t (o + 1) 4) ∧ (t.2.2 o 4 = o + 2 ∧ TI t (o + 2) 40) ∧ (t.2.2 o 5 = o + 3 ∧ TI t (o + 3) 40) ∧ (t.2.2 o 6 = o + 4 ∧ TI t (o + 4) 800) ∧ (t.2.2 o 7 = o + 5 ∧ TI t (o + 5) 340) ∧ (t.2.2 o 8 = o + 6 ∧ TI t (o + 6) 340) ∧ (t.2.2 o 9 = o + 7 ∧ TI t (o + 7) 340) ∧ (t.2.2 o 10 = o + 8 ∧ TI t (o + 8) 340) ∧ t.2.2 o 11 = o + 9 ∧ TJ t (o + 9) 340
theorem TA.tag {h : Hp} {o : Nat} (H : TA (top h) o) : hTag h o = 1 := H.1
theorem TA.r3 {h : Hp} {o : Nat} (H : TA (top h) o) : gfR h o 1 3 = some (o + 1) := gfR_ok H.1 H.2.1.1
theorem TA.a3 {t : Tp} {o : Nat} (H : TA t o) : TI t (o + 1) 4 := H.2.1.2
theorem TA.r4 {h : Hp} {o : Nat} (H : TA (top h) o) : gfR h o 1 4 = some (o + 2) := gfR_ok H.1 H.2.2.1.1
theorem TA.a4 {t : Tp} {o : Nat} (H : TA t o) : TI t (o + 2) 40 := H.2.2.1.2
theorem TA.r5 {h : Hp} {o : Nat} (H : TA (top h) o) : gfR h o 1 5 = some (o + 3) := gfR_ok H.1 H.2.2.2.1.1
theorem TA.a5 {t : Tp} {o : Nat} (H : TA t o) : TI t (o + 3) 40 := H.2.2.2.1.2
theorem TA.r6 {h : Hp} {o : Nat} (H : TA (top h) o) : gfR h o 1 6 = some (o + 4) := gfR_ok H.1 H.2.2.2.2.1.1
theorem TA.a6 {t : Tp} {o : Nat} (H : TA t o) : TI t (o + 4) 800 := H.2.2.2.2.1.2
theorem TA.r7 {h : Hp} {o : Nat} (H : TA (top h) o) : gfR h o 1 7 = some (o + 5) := gfR_ok H.1 H.2.2.2.2.2.1.1
theorem TA.a7 {t : Tp} {o : Nat} (H : TA t o) : TI t (o + 5) 340 := H.2.2.2.2.2.1.2
theorem TA.r8 {h : Hp} {o : Nat} (H : TA (top h) o) : gfR h o 1 8 = some (o + 6) := gfR_ok H.1 H.2.2.2.2.2.2.1.1
theorem TA.a8 {t : Tp} {o : Nat} (H : TA t o) : TI t (o + 6) 340 := H.2.2.2.2.2.2.1.2
theorem TA.r9 {h : Hp} {o : Nat} (H : TA (top h) o) : gfR h o 1 9 = some (o + 7) := gfR_ok H.1 H.2.2.2.2.2.2.2.1.1
theorem TA.a9 {t : Tp} {o : Nat} (H : TA t o) : TI t (o + 7) 340 := H.2.2.2.2.2.2.2.1.2
theorem TA.r10 {h : Hp} {o : Nat} (H : TA (top h) o) : gfR h o 1 10 = some (o + 8) := gfR_ok H.1 H.2.2.2.2.2.2.2.2.1.1
theorem TA.a10 {t : Tp} {o : Nat} (H : TA t o) : TI t (o + 8) 340 := H.2.2.2.2.2.2.2.2.1.2
theorem TA.r11 {h : Hp} {o : Nat} (H : TA (top h) o) : gfR h o 1 11 = some (o + 9) := gfR_ok H.1 H.2.2.2.2.2.2.2.2.2.1
theorem TA.a11 {t : Tp} {o : Nat} (H : TA t o) : TJ t (o + 9) 340 := H.2.2.2.2.2.2.2.2.2.2
theorem TA.f0 {h : Hp} {o : Nat} (H : TA (top h) o) : gfI h o 1 0 = some (J (hE h o 0)) := gfI_ok H.1
theorem TA.f1 {h : Hp} {o : Nat} (H : TA (top h) o) : gfI h o 1 1 = some (J (hE h o 1)) := gfI_ok H.1
theorem TA.f2 {h : Hp} {o : Nat} (H : TA (top h) o) : gfI h o 1 2 = some (J (hE h o 2)) := gfI_ok H.1
section AR
variable {h : Hp} {o : Nat}
theorem X0_versionsOf_at {d : Int} (H : TA (top h) o) (h1 : -2147483648 ≤ d) (h2 : d < 2147483648) : m_X0_versionsOf o (J d) h = some (J (atE h (o + 1) 4 d)) := by
  simp (disch := omega) only [m_X0_versionsOf, H.r3, bS, X5_at_ok H.a3]
theorem X0_slotOf_ok {d v : Int} : m_X0_slotOf (J d) (J v) h = some (J (d * 10 + v)) := by
  simp only [m_X0_slotOf, l10, J_mul, J_add]
theorem X0_lengthOf_at {d v : Int} (H : TA (top h) o) (h1 : -2147483648 ≤ d * 10 + v) (h2 : d * 10 + v < 2147483648) : m_X0_lengthOf o (J d) (J v) h = some (J (atE h (o + 3) 40 (d * 10 + v))) := by
  simp (disch := omega) only [m_X0_lengthOf, H.r5, bS, X0_slotOf_ok, X5_at_ok H.a5]
theorem X0_hasDocument_T {d : Int} (H : TA (top h) o) (h1 : 0 ≤ d) (h2 : d < hE h o 0) (h3 : hE h o 0 < 1000) : m_X0_hasDocument o (J d) h = some (J 1) := by
  simp (disch := omega) only [m_X0_hasDocument, j_X0_hasDocument_17, H.f0, zb0, zb1, lm8, lm2, lm1, l0, l1, l2, l3, l4, l5, l6, l7, l8, l9, l10, l11, l12, l13, l14, l15, l16, l17, l18, l19, l20, l21, l22, l23, l24, l25, l27, l31, l32, l40, l46, l48, l50, l57, l59, l63, l86, l96, l97, l100, l110, l114, l122, l127, l200, l255, l300, l319, l320, l340, l441, l456, l580, l600, l800, l886, l1206, l1526, J_add, J_sub, J_mul, J_neg, J_lt, J_le, J_eq, jT, jF, iT, iF, eT, eF, aT, aF, ite_true, ite_false, ite_not, bS]
theorem X0_hasDocument_F {d : Int} (H : TA (top h) o) (h1 : d < 0 ∨ hE h o 0 ≤ d) (h2 : -2147483648 ≤ d) (h3 : d < 2147483648) : m_X0_hasDocument o (J d) h = some (J 0) := by
  have := hE_rg h o 0
  by_cases hd : d < 0
  · simp (disch := omega) only [m_X0_hasDocument, j_X0_hasDocument_17, H.f0, zb0, zb1, lm8, lm2, lm1, l0, l1, l2, l3, l4, l5, l6, l7, l8, l9, l10, l11, l12, l13, l14, l15, l16, l17, l18, l19, l20, l21, l22, l23, l24, l25, l27, l31, l32, l40, l46, l48, l50, l57, l59, l63, l86, l96, l97, l100, l110, l114, l122, l127, l200, l255, l300, l319, l320, l340, l441, l456, l580, l600, l800, l886, l1206, l1526, J_add, J_sub, J_mul, J_neg, J_lt, J_le, J_eq, jT, jF, iT, iF, eT, eF, aT, aF, ite_true, ite_false, ite_not, bS]
  · simp (disch := omega) only [m_X0_hasDocument, j_X0_hasDocument_17, H.f0, zb0, zb1, lm8, lm2, lm1, l0, l1, l2, l3, l4, l5, l6, l7, l8, l9, l10, l11, l12, l13, l14, l15, l16, l17, l18, l19, l20, l21, l22, l23, l24, l25, l27, l31, l32, l40, l46, l48, l50, l57, l59, l63, l86, l96, l97, l100, l110, l114, l122, l127, l200, l255, l300, l319, l320, l340, l441, l456, l580, l600, l800, l886, l1206, l1526, J_add, J_sub, J_mul, J_neg, J_lt, J_le, J_eq, jT, jF, iT, iF, eT, eF, aT, aF, ite_true, ite_false, ite_not, bS]
theorem X0_hasVersion_T {d v : Int} (H : TA (top h) o) (h1 : 0 ≤ d) (h2 : d < hE h o 0) (h3 : hE h o 0 < 1000) (h4 : 0 ≤ v) (h5 : v < atE h (o + 1) 4 d) : m_X0_hasVersion o (J d) (J v) h = some (J 1) := by
  have := atE_rg h (o + 1) 4 d
  simp (disch := omega) only [m_X0_hasVersion, j_X0_hasVersion_26, rc_ok H.tag, X0_hasDocument_T H h1 h2 h3, X0_versionsOf_at H, zb0, zb1, lm8, lm2, lm1, l0, l1, l2, l3, l4, l5, l6, l7, l8, l9, l10, l11, l12, l13, l14, l15, l16, l17, l18, l19, l20, l21, l22, l23, l24, l25, l27, l31, l32, l40, l46, l48, l50, l57, l59, l63, l86, l96, l97, l100, l110, l114, l122, l127, l200, l255, l300, l319, l320, l340, l441, l456, l580, l600, l800, l886, l1206, l1526, J_add, J_sub, J_mul, J_neg, J_lt, J_le, J_eq, jT, jF, iT, iF, eT, eF, aT, aF, ite_true, ite_false, ite_not, bS]
theorem X0_hasVersion_F {d v : Int} (H : TA (top h) o) (h1 : d < 0 ∨ hE h o 0 ≤ d ∨ v < 0 ∨ atE h (o + 1) 4 d ≤ v) (h2 : -2147483648 ≤ d) (h3 : d < 2147483648) (h4 : -2147483648 ≤ v) (h5 : v < 2147483648) (h6 : hE h o 0 < 1000) : m_X0_hasVersion o (J d) (J v) h = some (J 0) := by
  have := atE_rg h (o + 1) 4 d
  have := hE_rg h o 0
  by_cases hd : d < 0 ∨ hE h o 0 ≤ d
  · simp (disch := omega) only [m_X0_hasVersion, j_X0_hasVersion_26, rc_ok H.tag, X0_hasDocument_F H hd h2 h3, X0_versionsOf_at H, zb0, zb1, lm8, lm2, lm1, l0, l1, l2, l3, l4, l5, l6, l7, l8, l9, l10, l11, l12, l13, l14, l15, l16, l17, l18, l19, l20, l21, l22, l23, l24, l25, l27, l31, l32, l40, l46, l48, l50, l57, l59, l63, l86, l96, l97, l100, l110, l114, l122, l127, l200, l255, l300, l319, l320, l340, l441, l456, l580, l600, l800, l886, l1206, l1526, J_add, J_sub, J_mul, J_neg, J_lt, J_le, J_eq, jT, jF, iT, iF, eT, eF, aT, aF, ite_true, ite_false, ite_not, bS]
  · by_cases hv : v < 0
    · simp (disch := omega) only [m_X0_hasVersion, j_X0_hasVersion_26, rc_ok H.tag, X0_hasDocument_T H, X0_versionsOf_at H, zb0, zb1, lm8, lm2, lm1, l0, l1, l2, l3, l4, l5, l6, l7, l8, l9, l10, l11, l12, l13, l14, l15, l16, l17, l18, l19, l20, l21, l22, l23, l24, l25, l27, l31, l32, l40, l46, l48, l50, l57, l59, l63, l86, l96, l97, l100, l110, l114, l122, l127, l200, l255, l300, l319, l320, l340, l441, l456, l580, l600, l800, l886, l1206, l1526, J_add, J_sub, J_mul, J_neg, J_lt, J_le, J_eq, jT, jF, iT, iF, eT, eF, aT, aF, ite_true, ite_false, ite_not, bS]
    · simp (disch := omega) only [m_X0_hasVersion, j_X0_hasVersion_26, rc_ok H.tag, X0_hasDocument_T H, X0_versionsOf_at H, zb0, zb1, lm8, lm2, lm1, l0, l1, l2, l3, l4, l5, l6, l7, l8, l9, l10, l11, l12, l13, l14, l15, l16, l17, l18, l19, l20, l21, l22, l23, l24, l25, l27, l31, l32, l40, l46, l48, l50, l57, l59, l63, l86, l96, l97, l100, l110, l114, l122, l127, l200, l255, l300, l319, l320, l340, l441, l456, l580, l600, l800, l886, l1206, l1526, J_add, J_sub, J_mul, J_neg, J_lt, J_le, J_eq, jT, jF, iT, iF, eT, eF, aT, aF, ite_true, ite_false, ite_not, bS]
theorem X0_tokenAt_at {d v q : Int} (H : TA (top h) o) (h1 : -2147483648 ≤ (d * 10 + v) * 20 + q) (h2 : (d * 10 + v) * 20 + q < 2147483648) : m_X0_tokenAt o (J d) (J v) (J q) h = some (J (atE h (o + 4) 800 ((d * 10 + v) * 20 + q))) := by
  simp (disch := omega) only [m_X0_tokenAt, H.r6, X0_slotOf_ok, X5_at_ok H.a6, lm8, lm2, lm1, l0, l1, l2, l3, l4, l5, l6, l7, l8, l9, l10, l11, l12, l13, l14, l15, l16, l17, l18, l19, l20, l21, l22, l23, l24, l25, l27, l31, l32, l40, l46, l48, l50, l57, l59, l63, l86, l96, l97, l100, l110, l114, l122, l127, l200, l255, l300, l319, l320, l340, l441, l456, l580, l600, l800, l886, l1206, l1526, J_add, J_sub, J_mul, J_neg, J_lt, J_le, J_eq, jT, jF, iT, iF, eT, eF, aT, aF, ite_true, ite_false, ite_not, bS]
theorem X0_spellingAt_at {d v q : Int} (H : TA (top h) o) (h1 : -2147483648 ≤ (d * 10 + v) * 20 + q) (h2 : (d * 10 + v) * 20 + q < 2147483648) : m_X0_spellingAt o (J d) (J v) (J q) h = some (J (atE h (o + 5) 340 (atE h (o + 4) 800 ((d * 10 + v) * 20 + q)))) := by
  have := atE_rg h (o + 4) 800 ((d * 10 + v) * 20 + q)
  simp (disch := omega) only [m_X0_spellingAt, H.r6, H.r7, X0_slotOf_ok, X5_at_ok H.a6, X5_at_ok H.a7, lm8, lm2, lm1, l0, l1, l2, l3, l4, l5, l6, l7, l8, l9, l10, l11, l12, l13, l14, l15, l16, l17, l18, l19, l20, l21, l22, l23, l24, l25, l27, l31, l32, l40, l46, l48, l50, l57, l59, l63, l86, l96, l97, l100, l110, l114, l122, l127, l200, l255, l300, l319, l320, l340, l441, l456, l580, l600, l800, l886, l1206, l1526, J_add, J_sub, J_mul, J_neg, J_lt, J_le, J_eq, jT, jF, iT, iF, eT, eF, aT, aF, ite_true, ite_false, ite_not, bS]
theorem X0_stayOf_at {t : Int} (H : TA (top h) o) (h1 : -2147483648 ≤ t) (h2 : t < 2147483648) : m_X0_stayOf o (J t) h = some (J (atE h (o + 7) 340 t)) := by
  simp (disch := omega) only [m_X0_stayOf, H.r9, bS, X5_at_ok H.a9]
theorem X0_ownerOf_at {t : Int} (H : TA (top h) o) (h1 : -2147483648 ≤ t) (h2 : t < 2147483648) : m_X0_ownerOf o (J t) h = some (J (atE h (o + 6) 340 t)) := by
  simp (disch := omega) only [m_X0_ownerOf, H.r8, bS, X5_at_ok H.a8]
theorem X0_dateOf_at {d v : Int} (H : TA (top h) o) (h1 : -2147483648 ≤ d * 10 + v) (h2 : d * 10 + v < 2147483648) : m_X0_dateOf o (J d) (J v) h = some (J (atE h (o + 2) 40 (d * 10 + v))) := by
  simp (disch := omega) only [m_X0_dateOf, H.r4, bS, X0_slotOf_ok, X5_at_ok H.a4]
theorem X0_wordAt_at {t : Int} (H : TA (top h) o) (h1 : -2147483648 ≤ t) (h2 : t < 2147483648) : m_X0_wordAt o (J t) h = some (J (atE h (o + 8) 340 t)) := by
  simp (disch := omega) only [m_X0_wordAt, H.r10, bS, X5_at_ok H.a10]
end AR
