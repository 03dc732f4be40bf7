/-! PURE PART: the reference's reads of its row -/
def TB (t : Tp) (a n : Nat) : Prop := t.1 a = 21 ∧ t.2.1 a = n
def TZ (t : Tp) (a n : Nat) : Prop := t.1 a = 23 ∧ t.2.1 a = n
/-- the reference's shape -/
def TR (t : Tp) (o : Nat) : Prop := t.1 o = 12 ∧ (t.2.2 o 2 = o + 2 ∧ TI t (o + 2) 4) ∧ (t.2.2 o 3 = o + 3 ∧ TI t (o + 3) 4) ∧ (t.2.2 o 4 = o + 4 ∧ TI t (o + 4) 4) ∧ (t.2.2 o 5 = o + 5 ∧ TI t (o + 5) 12) ∧ (t.2.2 o 6 = o + 6 ∧ TI t (o + 6) 12208) ∧ (t.2.2 o 7 = o + 7 ∧ TI t (o + 7) 456) ∧ (t.2.2 o 8 = o + 8 ∧ TI t (o + 8) 200) ∧ (t.2.2 o 18 = o + 9 ∧ TI t (o + 9) 1526) ∧ (t.2.2 o 19 = o + 10 ∧ TI t (o + 10) 4) ∧ (t.2.2 o 20 = o + 11 ∧ TI t (o + 11) 300) ∧ (t.2.2 o 26 = o + 12 ∧ TI t (o + 12) 320) ∧ (t.2.2 o 27 = o + 13 ∧ TI t (o + 13) 441) ∧ (t.2.2 o 29 = o + 14 ∧ TI t (o + 14) 32) ∧ (t.2.2 o 34 = o + 15 ∧ TI t (o + 15) 40) ∧ (t.2.2 o 1 = o + 1 ∧ TB t (o + 1) 2400) ∧ t.2.2 o 36 = o + 16 ∧ TZ t (o + 16) 3
theorem TR.r2 {h : Hp} {o : Nat} (H : TR (top h) o) : gfR h o 12 2 = some (o + 2) := gfR_ok H.1 H.2.1.1
theorem TR.a2 {t : Tp} {o : Nat} (H : TR t o) : TI t (o + 2) 4 := H.2.1.2
theorem TR.r3 {h : Hp} {o : Nat} (H : TR (top h) o) : gfR h o 12 3 = some (o + 3) := gfR_ok H.1 H.2.2.1.1
theorem TR.a3 {t : Tp} {o : Nat} (H : TR t o) : TI t (o + 3) 4 := H.2.2.1.2
theorem TR.r4 {h : Hp} {o : Nat} (H : TR (top h) o) : gfR h o 12 4 = some (o + 4) := gfR_ok H.1 H.2.2.2.1.1
theorem TR.a4 {t : Tp} {o : Nat} (H : TR t o) : TI t (o + 4) 4 := H.2.2.2.1.2
theorem TR.r5 {h : Hp} {o : Nat} (H : TR (top h) o) : gfR h o 12 5 = some (o + 5) := gfR_ok H.1 H.2.2.2.2.1.1
theorem TR.a5 {t : Tp} {o : Nat} (H : TR t o) : TI t (o + 5) 12 := H.2.2.2.2.1.2
theorem TR.r6 {h : Hp} {o : Nat} (H : TR (top h) o) : gfR h o 12 6 = some (o + 6) := gfR_ok H.1 H.2.2.2.2.2.1.1
theorem TR.a6 {t : Tp} {o : Nat} (H : TR t o) : TI t (o + 6) 12208 := H.2.2.2.2.2.1.2
theorem TR.r7 {h : Hp} {o : Nat} (H : TR (top h) o) : gfR h o 12 7 = some (o + 7) := gfR_ok H.1 H.2.2.2.2.2.2.1.1
theorem TR.a7 {t : Tp} {o : Nat} (H : TR t o) : TI t (o + 7) 456 := H.2.2.2.2.2.2.1.2
theorem TR.r8 {h : Hp} {o : Nat} (H : TR (top h) o) : gfR h o 12 8 = some (o + 8) := gfR_ok H.1 H.2.2.2.2.2.2.2.1.1
theorem TR.a8 {t : Tp} {o : Nat} (H : TR t o) : TI t (o + 8) 200 := H.2.2.2.2.2.2.2.1.2
theorem TR.r18 {h : Hp} {o : Nat} (H : TR (top h) o) : gfR h o 12 18 = some (o + 9) := gfR_ok H.1 H.2.2.2.2.2.2.2.2.1.1
theorem TR.a18 {t : Tp} {o : Nat} (H : TR t o) : TI t (o + 9) 1526 := H.2.2.2.2.2.2.2.2.1.2
theorem TR.r19 {h : Hp} {o : Nat} (H : TR (top h) o) : gfR h o 12 19 = some (o + 10) := gfR_ok H.1 H.2.2.2.2.2.2.2.2.2.1.1
theorem TR.a19 {t : Tp} {o : Nat} (H : TR t o) : TI t (o + 10) 4 := H.2.2.2.2.2.2.2.2.2.1.2
theorem TR.r20 {h : Hp} {o : Nat} (H : TR (top h) o) : gfR h o 12 20 = some (o + 11) := gfR_ok H.1 H.2.2.2.2.2.2.2.2.2.2.1.1
theorem TR.a20 {t : Tp} {o : Nat} (H : TR t o) : TI t (o + 11) 300 := H.2.2.2.2.2.2.2.2.2.2.1.2
theorem TR.r26 {h : Hp} {o : Nat} (H : TR (top h) o) : gfR h o 12 26 = some (o + 12) := gfR_ok H.1 H.2.2.2.2.2.2.2.2.2.2.2.1.1
theorem TR.a26 {t : Tp} {o : Nat} (H : TR t o) : TI t (o + 12) 320 := H.2.2.2.2.2.2.2.2.2.2.2.1.2
theorem TR.r27 {h : Hp} {o : Nat} (H : TR (top h) o) : gfR h o 12 27 = some (o + 13) := gfR_ok H.1 H.2.2.2.2.2.2.2.2.2.2.2.2.1.1
theorem TR.a27 {t : Tp} {o : Nat} (H : TR t o) : TI t (o + 13) 441 := H.2.2.2.2.2.2.2.2.2.2.2.2.1.2
theorem TR.r29 {h : Hp} {o : Nat} (H : TR (top h) o) : gfR h o 12 29 = some (o + 14) := gfR_ok H.1 H.2.2.2.2.2.2.2.2.2.2.2.2.2.1.1
theorem TR.a29 {t : Tp} {o : Nat} (H : TR t o) : TI t (o + 14) 32 := H.2.2.2.2.2.2.2.2.2.2.2.2.2.1.2
theorem TR.r34 {h : Hp} {o : Nat} (H : TR (top h) o) : gfR h o 12 34 = some (o + 15) := gfR_ok H.1 H.2.2.2.2.2.2.2.2.2.2.2.2.2.2.1.1
theorem TR.a34 {t : Tp} {o : Nat} (H : TR t o) : TI t (o + 15) 40 := H.2.2.2.2.2.2.2.2.2.2.2.2.2.2.1.2
theorem TR.r1 {h : Hp} {o : Nat} (H : TR (top h) o) : gfR h o 12 1 = some (o + 1) := gfR_ok H.1 H.2.2.2.2.2.2.2.2.2.2.2.2.2.2.2.1.1
theorem TR.a1 {t : Tp} {o : Nat} (H : TR t o) : TB t (o + 1) 2400 := H.2.2.2.2.2.2.2.2.2.2.2.2.2.2.2.1.2
theorem TR.r36 {h : Hp} {o : Nat} (H : TR (top h) o) : gfR h o 12 36 = some (o + 16) := gfR_ok H.1 H.2.2.2.2.2.2.2.2.2.2.2.2.2.2.2.2.1
theorem TR.a36 {t : Tp} {o : Nat} (H : TR t o) : TZ t (o + 16) 3 := H.2.2.2.2.2.2.2.2.2.2.2.2.2.2.2.2.2
theorem TR.f0 {h : Hp} {o : Nat} (H : TR (top h) o) : gfI h o 12 0 = some (J (hE h o 0)) := gfI_ok H.1
theorem TR.p0 {h : Hp} {o : Nat} {z : Int} (H : TR (top h) o) : pfI h o 12 0 (J z) = some (wE h o 0 z) := pfI_ok H.1
theorem TR.f9 {h : Hp} {o : Nat} (H : TR (top h) o) : gfI h o 12 9 = some (J (hE h o 9)) := gfI_ok H.1
theorem TR.p9 {h : Hp} {o : Nat} {z : Int} (H : TR (top h) o) : pfI h o 12 9 (J z) = some (wE h o 9 z) := pfI_ok H.1
theorem TR.f10 {h : Hp} {o : Nat} (H : TR (top h) o) : gfI h o 12 10 = some (J (hE h o 10)) := gfI_ok H.1
theorem TR.p10 {h : Hp} {o : Nat} {z : Int} (H : TR (top h) o) : pfI h o 12 10 (J z) = some (wE h o 10 z) := pfI_ok H.1
theorem TR.f11 {h : Hp} {o : Nat} (H : TR (top h) o) : gfI h o 12 11 = some (J (hE h o 11)) := gfI_ok H.1
theorem TR.p11 {h : Hp} {o : Nat} {z : Int} (H : TR (top h) o) : pfI h o 12 11 (J z) = some (wE h o 11 z) := pfI_ok H.1
theorem TR.f12 {h : Hp} {o : Nat} (H : TR (top h) o) : gfI h o 12 12 = some (J (hE h o 12)) := gfI_ok H.1
theorem TR.p12 {h : Hp} {o : Nat} {z : Int} (H : TR (top h) o) : pfI h o 12 12 (J z) = some (wE h o 12 z) := pfI_ok H.1
theorem TR.f13 {h : Hp} {o : Nat} (H : TR (top h) o) : gfI h o 12 13 = some (J (hE h o 13)) := gfI_ok H.1
theorem TR.p13 {h : Hp} {o : Nat} {z : Int} (H : TR (top h) o) : pfI h o 12 13 (J z) = some (wE h o 13 z) := pfI_ok H.1
theorem TR.f15 {h : Hp} {o : Nat} (H : TR (top h) o) : gfI h o 12 15 = some (J (hE h o 15)) := gfI_ok H.1
theorem TR.p15 {h : Hp} {o : Nat} {z : Int} (H : TR (top h) o) : pfI h o 12 15 (J z) = some (wE h o 15 z) := pfI_ok H.1
theorem TR.f16 {h : Hp} {o : Nat} (H : TR (top h) o) : gfI h o 12 16 = some (J (hE h o 16)) := gfI_ok H.1
theorem TR.p16 {h : Hp} {o : Nat} {z : Int} (H : TR (top h) o) : pfI h o 12 16 (J z) = some (wE h o 16 z) := pfI_ok H.1
theorem TR.f17 {h : Hp} {o : Nat} (H : TR (top h) o) : gfI h o 12 17 = some (J (hE h o 17)) := gfI_ok H.1
theorem TR.p17 {h : Hp} {o : Nat} {z : Int} (H : TR (top h) o) : pfI h o 12 17 (J z) = some (wE h o 17 z) := pfI_ok H.1
theorem TR.f21 {h : Hp} {o : Nat} (H : TR (top h) o) : gfI h o 12 21 = some (J (hE h o 21)) := gfI_ok H.1
theorem TR.p21 {h : Hp} {o : Nat} {z : Int} (H : TR (top h) o) : pfI h o 12 21 (J z) = some (wE h o 21 z) := pfI_ok H.1
theorem TR.f22 {h : Hp} {o : Nat} (H : TR (top h) o) : gfI h o 12 22 = some (J (hE h o 22)) := gfI_ok H.1
theorem TR.p22 {h : Hp} {o : Nat} {z : Int} (H : TR (top h) o) : pfI h o 12 22 (J z) = some (wE h o 22 z) := pfI_ok H.1
theorem TR.f23 {h : Hp} {o : Nat} (H : TR (top h) o) : gfI h o 12 23 = some (J (hE h o 23)) := gfI_ok H.1
theorem TR.p23 {h : Hp} {o : Nat} {z : Int} (H : TR (top h) o) : pfI h o 12 23 (J z) = some (wE h o 23 z) := pfI_ok H.1
theorem TR.f24 {h : Hp} {o : Nat} (H : TR (top h) o) : gfI h o 12 24 = some (J (hE h o 24)) := gfI_ok H.1
theorem TR.p24 {h : Hp} {o : Nat} {z : Int} (H : TR (top h) o) : pfI h o 12 24 (J z) = some (wE h o 24 z) := pfI_ok H.1
theorem TR.f25 {h : Hp} {o : Nat} (H : TR (top h) o) : gfI h o 12 25 = some (J (hE h o 25)) := gfI_ok H.1
theorem TR.p25 {h : Hp} {o : Nat} {z : Int} (H : TR (top h) o) : pfI h o 12 25 (J z) = some (wE h o 25 z) := pfI_ok H.1
theorem TR.f28 {h : Hp} {o : Nat} (H : TR (top h) o) : gfI h o 12 28 = some (J (hE h o 28)) := gfI_ok H.1
theorem TR.p28 {h : Hp} {o : Nat} {z : Int} (H : TR (top h) o) : pfI h o 12 28 (J z) = some (wE h o 28 z) := pfI_ok H.1
theorem TR.f30 {h : Hp} {o : Nat} (H : TR (top h) o) : gfI h o 12 30 = some (J (hE h o 30)) := gfI_ok H.1
theorem TR.p30 {h : Hp} {o : Nat} {z : Int} (H : TR (top h) o) : pfI h o 12 30 (J z) = some (wE h o 30 z) := pfI_ok H.1
theorem TR.f31 {h : Hp} {o : Nat} (H : TR (top h) o) : gfI h o 12 31 = some (J (hE h o 31)) := gfI_ok H.1
theorem TR.p31 {h : Hp} {o : Nat} {z : Int} (H : TR (top h) o) : pfI h o 12 31 (J z) = some (wE h o 31 z) := pfI_ok H.1
theorem TR.f32 {h : Hp} {o : Nat} (H : TR (top h) o) : gfI h o 12 32 = some (J (hE h o 32)) := gfI_ok H.1
theorem TR.p32 {h : Hp} {o : Nat} {z : Int} (H : TR (top h) o) : pfI h o 12 32 (J z) = some (wE h o 32 z) := pfI_ok H.1
theorem TR.f33 {h : Hp} {o : Nat} (H : TR (top h) o) : gfI h o 12 33 = some (J (hE h o 33)) := gfI_ok H.1
theorem TR.p33 {h : Hp} {o : Nat} {z : Int} (H : TR (top h) o) : pfI h o 12 33 (J z) = some (wE h o 33 z) := pfI_ok H.1
theorem TR.f35 {h : Hp} {o : Nat} (H : TR (top h) o) : gfI h o 12 35 = some (J (hE h o 35)) := gfI_ok H.1
theorem TR.p35 {h : Hp} {o : Nat} {z : Int} (H : TR (top h) o) : pfI h o 12 35 (J z) = some (wE h o 35 z) := pfI_ok H.1
theorem TR.tag {h : Hp} {o : Nat} (H : TR (top h) o) : hTag h o = 12 := H.1
/-- the reference at o has T in hand -/
def RM (h : Hp) (o : Nat) (T : Int → Int) : Prop := TR (top h) o ∧ AW T ∧ hE h o 24 = T 5 ∧ ∀ k, 0 ≤ k → k < 1526 → hE h (o + 9) k = T k
section RR
variable {h : Hp} {o : Nat} {T : Int → Int}
theorem X12_in_T {a b c : Int} (h1 : b ≤ a ∧ a ≤ c) (h2 : -2147483648 ≤ b) (h3 : c < 2147483648) : m_X12_in (J a) (J b) (J c) h = some (J 1) := by
  simp (disch := omega) only [m_X12_in, j_X12_in_15, lm8, lm2, lm1, l0, l1, l2, l3, l4, l5, l6, l7, l8, l9, l10, l11, l12, l13, l14, l15, l16, l17, l18, l19, l20, l21, l22, l23, l24, l25, l27, l31, l32, l40, l46, l48, l50, l57, l59, l63, l86, l96, l97, l100, l110, l114, l122, l127, l200, l255, l300, l319, l320, l340, l441, l456, l580, l600, l800, l886, l1206, l1526, J_add, J_sub, J_mul, J_neg, J_lt, J_le, J_eq, jT, jF, iT, iF, eT, eF, aT, aF, ite_true, ite_false, ite_not, bS, zb1]
theorem X12_in_F {a b c : Int} (h1 : a < b ∨ c < a) (h2 : -2147483648 ≤ b ∧ b < 2147483648) (h3 : -2147483648 ≤ c ∧ c < 2147483648) (h4 : -2147483648 ≤ a ∧ a < 2147483648) : m_X12_in (J a) (J b) (J c) h = some (J 0) := by
  by_cases h5 : a < b
  · simp (disch := omega) only [m_X12_in, j_X12_in_15, lm8, lm2, lm1, l0, l1, l2, l3, l4, l5, l6, l7, l8, l9, l10, l11, l12, l13, l14, l15, l16, l17, l18, l19, l20, l21, l22, l23, l24, l25, l27, l31, l32, l40, l46, l48, l50, l57, l59, l63, l86, l96, l97, l100, l110, l114, l122, l127, l200, l255, l300, l319, l320, l340, l441, l456, l580, l600, l800, l886, l1206, l1526, J_add, J_sub, J_mul, J_neg, J_lt, J_le, J_eq, jT, jF, iT, iF, eT, eF, aT, aF, ite_true, ite_false, ite_not, bS, zb0]
  · simp (disch := omega) only [m_X12_in, j_X12_in_15, lm8, lm2, lm1, l0, l1, l2, l3, l4, l5, l6, l7, l8, l9, l10, l11, l12, l13, l14, l15, l16, l17, l18, l19, l20, l21, l22, l23, l24, l25, l27, l31, l32, l40, l46, l48, l50, l57, l59, l63, l86, l96, l97, l100, l110, l114, l122, l127, l200, l255, l300, l319, l320, l340, l441, l456, l580, l600, l800, l886, l1206, l1526, J_add, J_sub, J_mul, J_neg, J_lt, J_le, J_eq, jT, jF, iT, iF, eT, eF, aT, aF, ite_true, ite_false, ite_not, bS, zb0]
theorem X12_at_ok {d v : Int} : m_X12_at (J d) (J v) h = some (J (10 * d + v)) := by
  simp only [m_X12_at, lm8, lm2, lm1, l0, l1, l2, l3, l4, l5, l6, l7, l8, l9, l10, l11, l12, l13, l14, l15, l16, l17, l18, l19, l20, l21, l22, l23, l24, l25, l27, l31, l32, l40, l46, l48, l50, l57, l59, l63, l86, l96, l97, l100, l110, l114, l122, l127, l200, l255, l300, l319, l320, l340, l441, l456, l580, l600, l800, l886, l1206, l1526, J_add, J_sub, J_mul, J_neg, J_lt, J_le, J_eq, jT, jF, iT, iF, eT, eF, aT, aF, ite_true, ite_false, ite_not, bS]
theorem RM.tag (H : RM h o T) : hTag h o = 12 := H.1.1
theorem RM.wf (H : RM h o T) : AW T := H.2.1
theorem RM.told (H : RM h o T) {k : Int} (h0 : 0 ≤ k) (h1 : k < 1526) : alI h (o + 9) (J k) = some (J (T k)) := by
  rw [alI_ok H.1.a18 h0 (by omega) (by omega), H.2.2.2 k h0 h1]
theorem RM.f24 (H : RM h o T) : gfI h o 12 24 = some (J (T 5)) := by rw [H.1.f24, H.2.2.1]
theorem RM.versions (H : RM h o T) {d : Int} (h0 : 0 ≤ d) (h1 : d < 4) : m_X12_versions o (J d) h = some (J (T (1 + d))) := by
  simp (disch := omega) only [m_X12_versions, H.1.r18, lm8, lm2, lm1, l0, l1, l2, l3, l4, l5, l6, l7, l8, l9, l10, l11, l12, l13, l14, l15, l16, l17, l18, l19, l20, l21, l22, l23, l24, l25, l27, l31, l32, l40, l46, l48, l50, l57, l59, l63, l86, l96, l97, l100, l110, l114, l122, l127, l200, l255, l300, l319, l320, l340, l441, l456, l580, l600, l800, l886, l1206, l1526, J_add, J_sub, J_mul, J_neg, J_lt, J_le, J_eq, jT, jF, iT, iF, eT, eF, aT, aF, ite_true, ite_false, ite_not, bS, H.told]
theorem RM.longOf (H : RM h o T) {d v : Int} (h0 : 0 ≤ 10 * d + v) (h1 : 10 * d + v < 40) : m_X12_longOf o (J d) (J v) h = some (J (lnT T d v)) := by
  simp (disch := omega) only [m_X12_longOf, H.1.r18, lm8, lm2, lm1, l0, l1, l2, l3, l4, l5, l6, l7, l8, l9, l10, l11, l12, l13, l14, l15, l16, l17, l18, l19, l20, l21, l22, l23, l24, l25, l27, l31, l32, l40, l46, l48, l50, l57, l59, l63, l86, l96, l97, l100, l110, l114, l122, l127, l200, l255, l300, l319, l320, l340, l441, l456, l580, l600, l800, l886, l1206, l1526, J_add, J_sub, J_mul, J_neg, J_lt, J_le, J_eq, jT, jF, iT, iF, eT, eF, aT, aF, ite_true, ite_false, ite_not, bS, H.told, X12_at_ok, lnT]
theorem RM.tokenAt (H : RM h o T) {d v q : Int} (h0 : 0 ≤ 10 * d + v) (h1 : 10 * d + v < 40) (h2 : 0 ≤ q) (h3 : q < 20) : m_X12_tokenAt o (J d) (J v) (J q) h = some (J (rwT T d v q)) := by
  simp (disch := omega) only [m_X12_tokenAt, H.1.r18, lm8, lm2, lm1, l0, l1, l2, l3, l4, l5, l6, l7, l8, l9, l10, l11, l12, l13, l14, l15, l16, l17, l18, l19, l20, l21, l22, l23, l24, l25, l27, l31, l32, l40, l46, l48, l50, l57, l59, l63, l86, l96, l97, l100, l110, l114, l122, l127, l200, l255, l300, l319, l320, l340, l441, l456, l580, l600, l800, l886, l1206, l1526, J_add, J_sub, J_mul, J_neg, J_lt, J_le, J_eq, jT, jF, iT, iF, eT, eF, aT, aF, ite_true, ite_false, ite_not, bS, H.told, X12_at_ok, rwT]
theorem RM.wordOf (H : RM h o T) {t : Int} (h0 : 0 ≤ t) (h1 : t < 320) : m_X12_wordOf o (J t) h = some (J (wdT T t)) := by
  simp (disch := omega) only [m_X12_wordOf, H.1.r18, lm8, lm2, lm1, l0, l1, l2, l3, l4, l5, l6, l7, l8, l9, l10, l11, l12, l13, l14, l15, l16, l17, l18, l19, l20, l21, l22, l23, l24, l25, l27, l31, l32, l40, l46, l48, l50, l57, l59, l63, l86, l96, l97, l100, l110, l114, l122, l127, l200, l255, l300, l319, l320, l340, l441, l456, l580, l600, l800, l886, l1206, l1526, J_add, J_sub, J_mul, J_neg, J_lt, J_le, J_eq, jT, jF, iT, iF, eT, eF, aT, aF, ite_true, ite_false, ite_not, bS, H.told, wdT]
theorem AW.ln (H : AW T) {d v : Int} (hv : vvT T d v) : 0 ≤ lnT T d v ∧ lnT T d v ≤ 20 := H.2.2.2.2.1 d v hv
theorem AW.rw (H : AW T) {d v q : Int} (hv : ppT T d v q) : 0 ≤ rwT T d v q ∧ rwT T d v q < T 5 ∧ owT T (rwT T d v q) = d := H.2.2.2.2.2.1 d v q hv
theorem AW.n5 (H : AW T) : 0 ≤ T 5 ∧ T 5 ≤ 319 := H.2.2.2.1
theorem RM.wordAt (H : RM h o T) {d v q : Int} (hv : ppT T d v q) : m_X12_wordAt o (J d) (J v) (J q) h = some (J (wdT T (rwT T d v q))) := by
  have h1 := H.wf.vb hv.1
  have h2 := H.wf.ln hv.1
  have h3 := H.wf.rw hv
  have h4 := H.wf.n5
  have h5 := hv.2
  simp (disch := omega) only [m_X12_wordAt, rc_ok H.tag, lm8, lm2, lm1, l0, l1, l2, l3, l4, l5, l6, l7, l8, l9, l10, l11, l12, l13, l14, l15, l16, l17, l18, l19, l20, l21, l22, l23, l24, l25, l27, l31, l32, l40, l46, l48, l50, l57, l59, l63, l86, l96, l97, l100, l110, l114, l122, l127, l200, l255, l300, l319, l320, l340, l441, l456, l580, l600, l800, l886, l1206, l1526, J_add, J_sub, J_mul, J_neg, J_lt, J_le, J_eq, jT, jF, iT, iF, eT, eF, aT, aF, ite_true, ite_false, ite_not, bS, H.tokenAt, H.wordOf]
theorem RM.all (H : RM h o T) : m_X12_versionsAll o h = some (J (sumZ (T 0) (fun d => T (1 + d)))) := by
  have h0 := H.wf.n0
  unfold m_X12_versionsAll l_X12_versionsAll_4
  refine loop_run (fun i => (J (sumZ i (fun d => T (1 + d))), J i)) (T 0).toNat (lt_FUEL (by omega)) (fun k i hi => ?_) (fun k => ?_)
  · simp (disch := omega) only [b_X12_versionsAll_4, H.1.r18, H.told, rc_ok H.tag, H.versions, lm8, lm2, lm1, l0, l1, l2, l3, l4, l5, l6, l7, l8, l9, l10, l11, l12, l13, l14, l15, l16, l17, l18, l19, l20, l21, l22, l23, l24, l25, l27, l31, l32, l40, l46, l48, l50, l57, l59, l63, l86, l96, l97, l100, l110, l114, l122, l127, l200, l255, l300, l319, l320, l340, l441, l456, l580, l600, l800, l886, l1206, l1526, J_add, J_sub, J_mul, J_neg, J_lt, J_le, J_eq, jT, jF, iT, iF, eT, eF, aT, aF, ite_true, ite_false, ite_not, bS, sumZ_succ, Int.natCast_add, Int.cast_ofNat_Int]
  · simp (disch := omega) only [b_X12_versionsAll_4, H.1.r18, H.told, lm8, lm2, lm1, l0, l1, l2, l3, l4, l5, l6, l7, l8, l9, l10, l11, l12, l13, l14, l15, l16, l17, l18, l19, l20, l21, l22, l23, l24, l25, l27, l31, l32, l40, l46, l48, l50, l57, l59, l63, l86, l96, l97, l100, l110, l114, l122, l127, l200, l255, l300, l319, l320, l340, l441, l456, l580, l600, l800, l886, l1206, l1526, J_add, J_sub, J_mul, J_neg, J_lt, J_le, J_eq, jT, jF, iT, iF, eT, eF, aT, aF, ite_true, ite_false, ite_not, bS, Int.toNat_of_nonneg]
theorem RM.size (H : RM h o T) : m_X12_sizeAll o h = some (J (sumZ (T 0) (fun d => sumZ (T (1 + d)) (fun v => lnT T d v)))) := by
  have h0 := H.wf.n0
  have inner : ∀ (d : Int) (K : Int32 → Option Int32) (a : Int), 0 ≤ d → d < T 0 → l_X12_sizeAll_16 o (J d) h K (J a) (J 0) = K (J (a + sumZ (T (1 + d)) (fun v => lnT T d v))) := by
    intro d K a hd hd2
    have hn := H.wf.nv hd (by omega)
    unfold l_X12_sizeAll_16
    refine loop_to (fun i => (J (a + sumZ i (fun v => lnT T d v)), J i)) (T (1 + d)).toNat (by simp [sumZ_0]) (lt_FUEL (by omega)) (fun k i hi => ?_) (fun k => ?_)
    · simp (disch := omega) only [b_X12_sizeAll_16, rc_ok H.tag, H.versions, H.longOf, lm8, lm2, lm1, l0, l1, l2, l3, l4, l5, l6, l7, l8, l9, l10, l11, l12, l13, l14, l15, l16, l17, l18, l19, l20, l21, l22, l23, l24, l25, l27, l31, l32, l40, l46, l48, l50, l57, l59, l63, l86, l96, l97, l100, l110, l114, l122, l127, l200, l255, l300, l319, l320, l340, l441, l456, l580, l600, l800, l886, l1206, l1526, J_add, J_sub, J_mul, J_neg, J_lt, J_le, J_eq, jT, jF, iT, iF, eT, eF, aT, aF, ite_true, ite_false, ite_not, bS, sumZ_succ, Int.natCast_add, Int.cast_ofNat_Int, Int.add_assoc]
    · simp (disch := omega) only [b_X12_sizeAll_16, rc_ok H.tag, H.versions, lm8, lm2, lm1, l0, l1, l2, l3, l4, l5, l6, l7, l8, l9, l10, l11, l12, l13, l14, l15, l16, l17, l18, l19, l20, l21, l22, l23, l24, l25, l27, l31, l32, l40, l46, l48, l50, l57, l59, l63, l86, l96, l97, l100, l110, l114, l122, l127, l200, l255, l300, l319, l320, l340, l441, l456, l580, l600, l800, l886, l1206, l1526, J_add, J_sub, J_mul, J_neg, J_lt, J_le, J_eq, jT, jF, iT, iF, eT, eF, aT, aF, ite_true, ite_false, ite_not, bS, Int.toNat_of_nonneg]
  unfold m_X12_sizeAll l_X12_sizeAll_4
  refine loop_run (fun i => (J (sumZ i (fun d => sumZ (T (1 + d)) (fun v => lnT T d v))), J i)) (T 0).toNat (lt_FUEL (by omega)) (fun k i hi => ?_) (fun k => ?_)
  · simp (disch := omega) only [b_X12_sizeAll_4, H.1.r18, H.told, lm8, lm2, lm1, l0, l1, l2, l3, l4, l5, l6, l7, l8, l9, l10, l11, l12, l13, l14, l15, l16, l17, l18, l19, l20, l21, l22, l23, l24, l25, l27, l31, l32, l40, l46, l48, l50, l57, l59, l63, l86, l96, l97, l100, l110, l114, l122, l127, l200, l255, l300, l319, l320, l340, l441, l456, l580, l600, l800, l886, l1206, l1526, J_add, J_sub, J_mul, J_neg, J_lt, J_le, J_eq, jT, jF, iT, iF, eT, eF, aT, aF, ite_true, ite_false, ite_not, bS, inner, j_X12_sizeAll_40, sumZ_succ, Int.natCast_add, Int.cast_ofNat_Int]
  · simp (disch := omega) only [b_X12_sizeAll_4, H.1.r18, H.told, lm8, lm2, lm1, l0, l1, l2, l3, l4, l5, l6, l7, l8, l9, l10, l11, l12, l13, l14, l15, l16, l17, l18, l19, l20, l21, l22, l23, l24, l25, l27, l31, l32, l40, l46, l48, l50, l57, l59, l63, l86, l96, l97, l100, l110, l114, l122, l127, l200, l255, l300, l319, l320, l340, l441, l456, l580, l600, l800, l886, l1206, l1526, J_add, J_sub, J_mul, J_neg, J_lt, J_le, J_eq, jT, jF, iT, iF, eT, eF, aT, aF, ite_true, ite_false, ite_not, bS, Int.toNat_of_nonneg]
end RR
