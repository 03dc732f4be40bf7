/-! PURE PART: what a token tells, the class -/
/-- keywords in the class's order -/
def kwT : List (List Nat) := [[112, 104, 114, 97, 115, 101], [110, 101, 97, 114], [109, 97, 110, 121], [110, 111, 116], [101, 118, 101, 114], [110, 101, 119], [97, 110, 100], [111, 114], [100, 111, 99], [112, 117, 116], [99, 117, 116], [109, 111, 118, 101], [98, 97, 99, 107], [105, 110], [111, 117, 116]]
def kwL (k : Int) : Int := ((kwT.getD k.toNat []).length : Nat)
def kwC (k j : Int) : Int := ((kwT.getD k.toNat []).getD j.toNat 0 : Nat)
theorem str_len : ∀ k : Fin 15, strLen (tN k) = some (J ((kwT.getD k []).length : Nat)) := by decide +kernel
theorem str_ch : ∀ k : Fin 15, ∀ j : Fin 6, (j : Nat) < (kwT.getD k []).length → strCh (tN k) (J ((j : Nat) : Int)) = some (J ((kwT.getD k []).getD j 0 : Nat)) := by decide +kernel
theorem kwL_rg : ∀ k : Fin 15, 2 ≤ (kwT.getD k []).length ∧ (kwT.getD k []).length ≤ 6 := by decide
theorem strLen_ok {k : Int} (k0 : 0 ≤ k) (k1 : k < 15) : strLen (tN k.toNat) = some (J (kwL k)) := str_len ⟨k.toNat, by omega⟩
theorem kwL_ok {k : Int} (k0 : 0 ≤ k) (k1 : k < 15) : 2 ≤ kwL k ∧ kwL k ≤ 6 := by
  have := kwL_rg ⟨k.toNat, by omega⟩
  have h : kwL k = ((kwT.getD k.toNat []).length : Nat) := rfl
  rw [h]
  have a := this.1
  have b := this.2
  simp only at a b
  omega
theorem strCh_ok {k j : Int} (k0 : 0 ≤ k) (k1 : k < 15) (j0 : 0 ≤ j) (j1 : j < kwL k) : strCh (tN k.toNat) (J j) = some (J (kwC k j)) := by
  have hl := kwL_ok k0 k1
  have h : kwL k = ((kwT.getD k.toNat []).length : Nat) := rfl
  have := str_ch ⟨k.toNat, by omega⟩ ⟨j.toNat, by omega⟩ (by show j.toNat < (kwT.getD k.toNat []).length; omega)
  simp only at this
  rw [show ((j.toNat : Nat) : Int) = j by omega] at this
  exact this
theorem kwC_rg : ∀ k : Fin 15, ∀ j : Fin 6, (kwT.getD k []).getD j 0 < 128 := by decide
/-- the token from f to t is keyword k -/
def kwB (B : Int → Int) (f t k : Int) : Bool := decide (t - f = kwL k) && decide (fiZ (kwL k) (fun j => decide (B (f + j) ≠ kwC k j)) = -1)
def lcF (B : Int → Int) (f t i : Int) : Int := if f + i < t then B (f + i) - 96 else 0
/-- the first four letters as a number of four digits -/
def spF (B : Int → Int) (f t : Int) : Int := ((lcF B f t 0 * 27 + lcF B f t 1) * 27 + lcF B f t 2) * 27 + lcF B f t 3
/-- as a number of as many digits as letters -/
def wdN (B : Int → Int) (f n : Int) : Int := if n = 1 then B f - 96 else if n = 2 then 27 * (B f - 96) + (B (f + 1) - 96) else if n = 3 then 27 * (27 * (B f - 96) + (B (f + 1) - 96)) + (B (f + 2) - 96) else 27 * (27 * (27 * (B f - 96) + (B (f + 1) - 96)) + (B (f + 2) - 96)) + (B (f + 3) - 96)
theorem sp_wide {B : Int → Int} {f t : Int} (h1 : f < t) (h4 : t ≤ f + 4) (hl : ∀ k, f ≤ k → k < t → 97 ≤ B k ∧ B k ≤ 122) : wrg (wdN B f (t - f)) ∧ spF B f t = wide (wdN B f (t - f)) := by
  have a0 := hl f (by omega) (by omega)
  unfold spF lcF wide wrg wdN
  rw [Int.add_zero, if_pos h1]
  by_cases c1 : t - f = 1
  · simp only [if_pos c1, if_neg (show ¬ f + 1 < t by omega), if_neg (show ¬ f + 2 < t by omega), if_neg (show ¬ f + 3 < t by omega)]
    rw [if_pos (show B f - 96 < 27 by omega)]
    omega
  · have a1 := hl (f + 1) (by omega) (by omega)
    simp only [if_neg c1, if_pos (show f + 1 < t by omega)]
    by_cases c2 : t - f = 2
    · simp only [if_pos c2, if_neg (show ¬ f + 2 < t by omega), if_neg (show ¬ f + 3 < t by omega)]
      rw [if_neg (by omega), if_pos (by omega)]
      omega
    · have a2 := hl (f + 2) (by omega) (by omega)
      simp only [if_neg c2, if_pos (show f + 2 < t by omega)]
      by_cases c3 : t - f = 3
      · simp only [if_pos c3, if_neg (show ¬ f + 3 < t by omega)]
        rw [if_neg (by omega), if_neg (by omega), if_pos (by omega)]
        omega
      · have a3 := hl (f + 3) (by omega) (by omega)
        simp only [if_neg c3, if_pos (show f + 3 < t by omega)]
        rw [if_neg (by omega), if_neg (by omega), if_neg (by omega)]
        omega
section TX
variable {h : Hp} {a : Nat} {B : Int → Int} {L f t : Int}
theorem CT.f3 (H : CT h a B L) (h3 : hE h a 3 = f) : gfI h a 10 3 = some (J f) := by rw [H.fI]; exact congrArg (fun z => some (J z)) h3
theorem CT.f4 (H : CT h a B L) (h4 : hE h a 4 = t) : gfI h a 10 4 = some (J t) := by rw [H.fI]; exact congrArg (fun z => some (J z)) h4
theorem CT.f2 (H : CT h a B L) {c : Int} (h2 : hE h a 2 = c) : gfI h a 10 2 = some (J c) := by rw [H.fI]; exact congrArg (fun z => some (J z)) h2
theorem CT.number (H : CT h a B L) (h3 : hE h a 3 = f) (h4 : hE h a 4 = t) (f0 : 0 ≤ f) (t1 : t ≤ 600) (n0 : f < t) (n1 : t ≤ f + 2) : m_X10_number a h = some (J (nuN B f (t - f))) := by
  have e3 := H.f3 h3
  have e4 := H.f4 h4
  unfold m_X10_number
  rw [e3, bs]
  refine loop_int (fun i => (J (nuN B f i), J (f + i))) (t - f) (by omega) (by omega) ?_ (fun k i i0 i1 => ?_) (fun k => ?_)
  · show (J (nuN B f 0), J (f + 0)) = (J 0, J f)
    rw [Int.add_zero]
    rfl
  · show b_X10_number_7 a h (fun v1q v2q => k (v1q, v2q)) (J (nuN B f i)) (J (f + i)) = _
    have : nuN B f i * 10 + B (f + i) - 48 = nuN B f (i + 1) := by
      have : i = 0 ∨ i = 1 := by omega
      rcases this with rfl | rfl
      · show 0 * 10 + B (f + 0) - 48 = B f - 48
        rw [Int.add_zero]
        omega
      · show (B f - 48) * 10 + B (f + 1) - 48 = 10 * (B f - 48) + (B (f + 1) - 48)
        omega
    simp (disch := omega) only [b_X10_number_7, e4, rc_ok H.tag, H.byteAt, lm8, lm2, lm1, l0, l1, l2, l3, l4, l5, l6, l7, l8, l9, l10, l11, l12, l13, l14, l15, l16, l17, l18, l19, l20, l21, l22, l23, l24, l25, l27, l31, l32, l40, l46, l48, l50, l57, l59, l63, l86, l96, l97, l100, l110, l114, l122, l127, l200, l255, l300, l319, l320, l340, l441, l456, l580, l600, l800, l886, l1206, l1526, J_add, J_sub, J_mul, J_neg, J_lt, J_le, J_eq, jT, jF, iT, iF, eT, eF, aT, aF, ite_true, ite_false, ite_not, bs]
    rw [this, show f + i + 1 = f + (i + 1) by omega]
  · show b_X10_number_7 a h (fun v1q v2q => k (v1q, v2q)) (J (nuN B f (t - f))) (J (f + (t - f))) = _
    simp (disch := omega) only [b_X10_number_7, e4, lm8, lm2, lm1, l0, l1, l2, l3, l4, l5, l6, l7, l8, l9, l10, l11, l12, l13, l14, l15, l16, l17, l18, l19, l20, l21, l22, l23, l24, l25, l27, l31, l32, l40, l46, l48, l50, l57, l59, l63, l86, l96, l97, l100, l110, l114, l122, l127, l200, l255, l300, l319, l320, l340, l441, l456, l580, l600, l800, l886, l1206, l1526, J_add, J_sub, J_mul, J_neg, J_lt, J_le, J_eq, jT, jF, iT, iF, eT, eF, aT, aF, ite_true, ite_false, ite_not, bs]
theorem CT.spelling (H : CT h a B L) (h3 : hE h a 3 = f) (h4 : hE h a 4 = t) (f0 : 0 ≤ f) (t1 : t ≤ 600) (n0 : f ≤ t) : m_X10_spelling a h = some (J (spF B f t)) := by
  have e3 := H.f3 h3
  have e4 := H.f4 h4
  unfold m_X10_spelling
  have st : ∀ (k : Int32 × Int32 → Option Int32) (z i : Int), 0 ≤ i → i < 4 → b_X10_spelling_4 a h (fun v1q v2q => k (v1q, v2q)) (J z) (J i) = k (J (z * 27 + lcF B f t i), J (i + 1)) := fun k z i i0 i1 => by
    unfold lcF
    by_cases c : f + i < t
    · rw [if_pos c]
      simp (disch := omega) only [b_X10_spelling_4, j_X10_spelling_45, e3, e4, rc_ok H.tag, H.byteAt, lm8, lm2, lm1, l0, l1, l2, l3, l4, l5, l6, l7, l8, l9, l10, l11, l12, l13, l14, l15, l16, l17, l18, l19, l20, l21, l22, l23, l24, l25, l27, l31, l32, l40, l46, l48, l50, l57, l59, l63, l86, l96, l97, l100, l110, l114, l122, l127, l200, l255, l300, l319, l320, l340, l441, l456, l580, l600, l800, l886, l1206, l1526, J_add, J_sub, J_mul, J_neg, J_lt, J_le, J_eq, jT, jF, iT, iF, eT, eF, aT, aF, ite_true, ite_false, ite_not, bs]
      rw [show z * 27 + (B (f + i) - 97 + 1) = z * 27 + (B (f + i) - 96) by omega]
    · rw [if_neg c]
      simp (disch := omega) only [b_X10_spelling_4, j_X10_spelling_45, e3, e4, lm8, lm2, lm1, l0, l1, l2, l3, l4, l5, l6, l7, l8, l9, l10, l11, l12, l13, l14, l15, l16, l17, l18, l19, l20, l21, l22, l23, l24, l25, l27, l31, l32, l40, l46, l48, l50, l57, l59, l63, l86, l96, l97, l100, l110, l114, l122, l127, l200, l255, l300, l319, l320, l340, l441, l456, l580, l600, l800, l886, l1206, l1526, J_add, J_sub, J_mul, J_neg, J_lt, J_le, J_eq, jT, jF, iT, iF, eT, eF, aT, aF, ite_true, ite_false, ite_not, bs]
  refine loop_int (fun i => (J (if i = 0 then 0 else if i = 1 then lcF B f t 0 else if i = 2 then lcF B f t 0 * 27 + lcF B f t 1 else if i = 3 then (lcF B f t 0 * 27 + lcF B f t 1) * 27 + lcF B f t 2 else spF B f t), J i)) 4 (by omega) (by omega) rfl (fun k i i0 i1 => ?_) (fun k => ?_)
  · refine (st k _ i i0 i1).trans ?_
    have : i = 0 ∨ i = 1 ∨ i = 2 ∨ i = 3 := by omega
    rcases this with rfl | rfl | rfl | rfl
    · show k (J (0 * 27 + lcF B f t 0), J (0 + 1)) = k (J (lcF B f t 0), J (0 + 1))
      rw [show 0 * 27 + lcF B f t 0 = lcF B f t 0 by omega]
    · rfl
    · rfl
    · rfl
  · show b_X10_spelling_4 a h (fun v1q v2q => k (v1q, v2q)) (J (spF B f t)) (J 4) = _
    simp (disch := omega) only [b_X10_spelling_4, lm8, lm2, lm1, l0, l1, l2, l3, l4, l5, l6, l7, l8, l9, l10, l11, l12, l13, l14, l15, l16, l17, l18, l19, l20, l21, l22, l23, l24, l25, l27, l31, l32, l40, l46, l48, l50, l57, l59, l63, l86, l96, l97, l100, l110, l114, l122, l127, l200, l255, l300, l319, l320, l340, l441, l456, l580, l600, l800, l886, l1206, l1526, J_add, J_sub, J_mul, J_neg, J_lt, J_le, J_eq, jT, jF, iT, iF, eT, eF, aT, aF, ite_true, ite_false, ite_not, bs]
theorem CT.isWord (H : CT h a B L) (h2 : hE h a 2 = 1) (h3 : hE h a 3 = f) (h4 : hE h a 4 = t) (f0 : 0 ≤ f) (t1 : t ≤ 600) (n0 : f ≤ t) : m_X10_isWord a h = some (J (b01 (decide (t - f ≤ 4)))) := by
  have e2 := H.f2 h2
  have e3 := H.f3 h3
  have e4 := H.f4 h4
  by_cases c : 4 < t - f
  · rw [decide_eq_false (by omega)]
    simp (disch := omega) only [m_X10_isWord, j_X10_isWord_26, e2, e3, e4, zb0, lm8, lm2, lm1, l0, l1, l2, l3, l4, l5, l6, l7, l8, l9, l10, l11, l12, l13, l14, l15, l16, l17, l18, l19, l20, l21, l22, l23, l24, l25, l27, l31, l32, l40, l46, l48, l50, l57, l59, l63, l86, l96, l97, l100, l110, l114, l122, l127, l200, l255, l300, l319, l320, l340, l441, l456, l580, l600, l800, l886, l1206, l1526, J_add, J_sub, J_mul, J_neg, J_lt, J_le, J_eq, jT, jF, iT, iF, eT, eF, aT, aF, ite_true, ite_false, ite_not, bs]
    rfl
  · rw [decide_eq_true (by omega)]
    simp (disch := omega) only [m_X10_isWord, j_X10_isWord_26, e2, e3, e4, zb1, lm8, lm2, lm1, l0, l1, l2, l3, l4, l5, l6, l7, l8, l9, l10, l11, l12, l13, l14, l15, l16, l17, l18, l19, l20, l21, l22, l23, l24, l25, l27, l31, l32, l40, l46, l48, l50, l57, l59, l63, l86, l96, l97, l100, l110, l114, l122, l127, l200, l255, l300, l319, l320, l340, l441, l456, l580, l600, l800, l886, l1206, l1526, J_add, J_sub, J_mul, J_neg, J_lt, J_le, J_eq, jT, jF, iT, iF, eT, eF, aT, aF, ite_true, ite_false, ite_not, bs]
    rfl
theorem CT.tokenIs (H : CT h a B L) {c k : Int} (h2 : hE h a 2 = c) (h3 : hE h a 3 = f) (h4 : hE h a 4 = t) (c0 : 0 ≤ c ∧ c ≤ 4) (f0 : 0 ≤ f) (t1 : t ≤ 600) (n0 : f ≤ t) (k0 : 0 ≤ k) (k1 : k < 15) : m_X10_tokenIs a (tN k.toNat) h = some (J (b01 (decide (c = 1) && kwB B f t k))) := by
  have e2 := H.f2 h2
  have e3 := H.f3 h3
  have e4 := H.f4 h4
  have hl := kwL_ok k0 k1
  have sl := strLen_ok k0 k1
  unfold kwB
  by_cases c1 : c = 1
  · rw [decide_eq_true c1, Bool.true_and]
    rw [c1] at e2
    by_cases cl : t - f = kwL k
    · rw [decide_eq_true cl, Bool.true_and]
      have eq : m_X10_tokenIs a (tN k.toNat) h = l_X10_tokenIs_28 a (tN k.toNat) h (J 0) := by
        simp (disch := omega) only [m_X10_tokenIs, e2, e3, e4, sl, lm8, lm2, lm1, l0, l1, l2, l3, l4, l5, l6, l7, l8, l9, l10, l11, l12, l13, l14, l15, l16, l17, l18, l19, l20, l21, l22, l23, l24, l25, l27, l31, l32, l40, l46, l48, l50, l57, l59, l63, l86, l96, l97, l100, l110, l114, l122, l127, l200, l255, l300, l319, l320, l340, l441, l456, l580, l600, l800, l886, l1206, l1526, J_add, J_sub, J_mul, J_neg, J_lt, J_le, J_eq, jT, jF, iT, iF, eT, eF, aT, aF, ite_true, ite_false, ite_not, bs]
      rw [eq]
      unfold l_X10_tokenIs_28
      refine loop_find (fun i => J i) (kwL k) (fun j => decide (B (f + j) ≠ kwC k j)) (fun i => some (J (b01 (decide (i = -1))))) (by omega) (by omega) rfl (fun k_ i hi hi2 hp => ?_) (fun k_ i hi hi2 hp => ?_) (fun k_ => ?_)
      · have hp2 : B (f + i) = kwC k i := by simpa using hp
        have sc := strCh_ok k0 k1 hi hi2
        rw [← hp2] at sc
        simp (disch := omega) only [b_X10_tokenIs_28, sl, e3, rc_ok H.tag, H.byteAt, sc, lm8, lm2, lm1, l0, l1, l2, l3, l4, l5, l6, l7, l8, l9, l10, l11, l12, l13, l14, l15, l16, l17, l18, l19, l20, l21, l22, l23, l24, l25, l27, l31, l32, l40, l46, l48, l50, l57, l59, l63, l86, l96, l97, l100, l110, l114, l122, l127, l200, l255, l300, l319, l320, l340, l441, l456, l580, l600, l800, l886, l1206, l1526, J_add, J_sub, J_mul, J_neg, J_lt, J_le, J_eq, jT, jF, iT, iF, eT, eF, aT, aF, ite_true, ite_false, ite_not, bs]
      · have hp2 : B (f + i) ≠ kwC k i := by simpa using hp
        have sc := strCh_ok k0 k1 hi hi2
        have hB := H.2.1.2.2 (f + i) (by omega) (by omega)
        have hc : 0 ≤ kwC k i ∧ kwC k i < 128 := by
          have := kwC_rg ⟨k.toNat, by omega⟩ ⟨i.toNat, by omega⟩
          simp only at this
          unfold kwC
          omega
        have hp3 : B (f + i) < kwC k i ∨ kwC k i < B (f + i) := by omega
        rw [decide_eq_false (by omega)]
        simp (disch := first | omega | exact hp3) only [b_X10_tokenIs_28, sl, e3, rc_ok H.tag, H.byteAt, sc, lm8, lm2, lm1, l0, l1, l2, l3, l4, l5, l6, l7, l8, l9, l10, l11, l12, l13, l14, l15, l16, l17, l18, l19, l20, l21, l22, l23, l24, l25, l27, l31, l32, l40, l46, l48, l50, l57, l59, l63, l86, l96, l97, l100, l110, l114, l122, l127, l200, l255, l300, l319, l320, l340, l441, l456, l580, l600, l800, l886, l1206, l1526, J_add, J_sub, J_mul, J_neg, J_lt, J_le, J_eq, jT, jF, iT, iF, eT, eF, aT, aF, ite_true, ite_false, ite_not, bs]
        rfl
      · rw [decide_eq_true rfl]
        simp (disch := omega) only [b_X10_tokenIs_28, sl, lm8, lm2, lm1, l0, l1, l2, l3, l4, l5, l6, l7, l8, l9, l10, l11, l12, l13, l14, l15, l16, l17, l18, l19, l20, l21, l22, l23, l24, l25, l27, l31, l32, l40, l46, l48, l50, l57, l59, l63, l86, l96, l97, l100, l110, l114, l122, l127, l200, l255, l300, l319, l320, l340, l441, l456, l580, l600, l800, l886, l1206, l1526, J_add, J_sub, J_mul, J_neg, J_lt, J_le, J_eq, jT, jF, iT, iF, eT, eF, aT, aF, ite_true, ite_false, ite_not, bs]
        rfl
    · rw [decide_eq_false cl, Bool.false_and]
      have cl2 : t - f < kwL k ∨ kwL k < t - f := by omega
      simp (disch := first | omega | exact cl2) only [m_X10_tokenIs, e2, e3, e4, sl, lm8, lm2, lm1, l0, l1, l2, l3, l4, l5, l6, l7, l8, l9, l10, l11, l12, l13, l14, l15, l16, l17, l18, l19, l20, l21, l22, l23, l24, l25, l27, l31, l32, l40, l46, l48, l50, l57, l59, l63, l86, l96, l97, l100, l110, l114, l122, l127, l200, l255, l300, l319, l320, l340, l441, l456, l580, l600, l800, l886, l1206, l1526, J_add, J_sub, J_mul, J_neg, J_lt, J_le, J_eq, jT, jF, iT, iF, eT, eF, aT, aF, ite_true, ite_false, ite_not, bs]
      rfl
  · rw [decide_eq_false c1, Bool.false_and]
    have c2 : c < 1 ∨ 1 < c := by omega
    simp (disch := first | omega | exact c2) only [m_X10_tokenIs, e2, lm8, lm2, lm1, l0, l1, l2, l3, l4, l5, l6, l7, l8, l9, l10, l11, l12, l13, l14, l15, l16, l17, l18, l19, l20, l21, l22, l23, l24, l25, l27, l31, l32, l40, l46, l48, l50, l57, l59, l63, l86, l96, l97, l100, l110, l114, l122, l127, l200, l255, l300, l319, l320, l340, l441, l456, l580, l600, l800, l886, l1206, l1526, J_add, J_sub, J_mul, J_neg, J_lt, J_le, J_eq, jT, jF, iT, iF, eT, eF, aT, aF, ite_true, ite_false, ite_not, bs]
    rfl
end TX
