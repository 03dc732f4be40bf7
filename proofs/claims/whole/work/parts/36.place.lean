/-! PURE PART: the place of a token in a version, both sides -/
theorem fiN_spec (n : Nat) (f : Nat → Bool) : (fiN n f = -1 ∧ ∀ i, i < n → f i = false) ∨ ∃ i : Nat, i < n ∧ fiN n f = (i : Int) ∧ f i = true ∧ ∀ j, j < i → f j = false := by
  induction n with
  | zero => exact Or.inl ⟨rfl, fun i hi => absurd hi (by omega)⟩
  | succ n ih =>
    rcases ih with ⟨h1, h2⟩ | ⟨i, h1, h2, h3, h4⟩
    · by_cases hn : f n = true
      · refine Or.inr ⟨n, by omega, ?_, hn, h2⟩
        simp [fiN, h1, hn]
      · refine Or.inl ⟨?_, fun i hi => ?_⟩
        · simp [fiN, h1, hn]
        · by_cases hin : i = n
          · subst hin
            simpa using hn
          · exact h2 i (by omega)
    · refine Or.inr ⟨i, by omega, ?_, h3, h4⟩
      simp [fiN, h2]
theorem laN_spec (n : Nat) (f : Nat → Bool) : (laN n f = -1 ∧ ∀ i, i < n → f i = false) ∨ ∃ i : Nat, i < n ∧ laN n f = (i : Int) ∧ f i = true ∧ ∀ j, i < j → j < n → f j = false := by
  induction n with
  | zero => exact Or.inl ⟨rfl, fun i hi => absurd hi (by omega)⟩
  | succ n ih =>
    by_cases hn : f n = true
    · exact Or.inr ⟨n, by omega, by simp [laN, hn], hn, fun j h1 h2 => by omega⟩
    · rcases ih with ⟨h1, h2⟩ | ⟨i, h1, h2, h3, h4⟩
      · refine Or.inl ⟨by simp [laN, h1, hn], fun i hi => ?_⟩
        by_cases hin : i = n
        · subst hin
          simpa using hn
        · exact h2 i (by omega)
      · refine Or.inr ⟨i, by omega, by simp [laN, h2, hn], h3, fun j h5 h6 => ?_⟩
        by_cases hin : j = n
        · subst hin
          simpa using hn
        · exact h4 j h5 (by omega)
/-- the place of a token, -1 where it isn't -/
def plT (T : Int → Int) (d v t : Int) : Int := fiN (lnT T d v).toNat (fun q => decide (rwT T d v q = t))
section PL
variable {h : Hp} {o : Nat} {T : Int → Int}
theorem CA.placeOf (H : CA h o T) {x : Nat} {d v t : Int} (hv : vvT T d v) (h1 : -2147483648 ≤ t) (h2 : t < 2147483648) : m_X2_placeOf x o (J d) (J v) (J t) h = some (J (plT T d v t)) := by
  have hb := H.wf.vb hv
  have hl := H.wf.2.2.2.2.1 d v hv
  have h5 := H.wf.2.2.2.1
  unfold m_X2_placeOf l_X2_placeOf_3 plT
  have step : ∀ (k : Int32 → Option Int32) (i : Nat), (i : Int) < lnT T d v → rwT T d v i ≠ t → b_X2_placeOf_3 o (J d) (J v) (J t) h (fun v5q => k v5q) (J i) = k (J ((i + 1 : Nat) : Int)) := by
    intro k i hi hne
    have hp : ppT T d v i := ⟨hv, by omega, hi⟩
    have hr := H.wf.2.2.2.2.2.1 d v i hp
    have hne2 : rwT T d v i < t ∨ t < rwT T d v i := by omega
    simp (disch := first | omega | exact hne2) only [b_X2_placeOf_3, rc_ok H.tag, H.lengthOf hv, H.tokenAt hp, lm8, lm2, lm1, l0, l1, l2, l3, l4, l5, l6, l7, l8, l9, l10, l11, l12, l13, l14, l15, l16, l17, l18, l19, l20, l21, l22, l23, l24, l25, l27, l31, l32, l40, l46, l48, l50, l57, l59, l63, l86, l96, l97, l100, l110, l114, l122, l127, l200, l255, l300, l319, l320, l340, l441, l456, l580, l600, l800, l886, l1206, l1526, J_add, J_sub, J_mul, J_neg, J_lt, J_le, J_eq, jT, jF, iT, iF, eT, eF, aT, aF, ite_true, ite_false, ite_not, bS, Int.natCast_add, Int.cast_ofNat_Int]
  rcases fiN_spec (lnT T d v).toNat (fun q => decide (rwT T d v q = t)) with ⟨e1, e2⟩ | ⟨i, hi, e1, e2, e3⟩
  · rw [e1]
    refine loop_run (fun i => J i) (lnT T d v).toNat (lt_FUEL (by omega)) (fun k i hi => ?_) (fun k => ?_)
    · exact step k i (by omega) (by have := e2 i hi; simpa using this)
    · simp (disch := omega) only [b_X2_placeOf_3, rc_ok H.tag, H.lengthOf hv, lm8, lm2, lm1, l0, l1, l2, l3, l4, l5, l6, l7, l8, l9, l10, l11, l12, l13, l14, l15, l16, l17, l18, l19, l20, l21, l22, l23, l24, l25, l27, l31, l32, l40, l46, l48, l50, l57, l59, l63, l86, l96, l97, l100, l110, l114, l122, l127, l200, l255, l300, l319, l320, l340, l441, l456, l580, l600, l800, l886, l1206, l1526, J_add, J_sub, J_mul, J_neg, J_lt, J_le, J_eq, jT, jF, iT, iF, eT, eF, aT, aF, ite_true, ite_false, ite_not, bS, Int.toNat_of_nonneg]
  · rw [e1]
    refine loop_run (fun i => J i) i (lt_FUEL (by omega)) (fun k j hj => ?_) (fun k => ?_)
    · exact step k j (by omega) (by have := e3 j hj; simpa using this)
    · have hp : ppT T d v i := ⟨hv, by omega, by omega⟩
      have hr := H.wf.2.2.2.2.2.1 d v i hp
      have he : rwT T d v i = t := by simpa using e2
      simp (disch := first | omega | exact he) only [b_X2_placeOf_3, rc_ok H.tag, H.lengthOf hv, H.tokenAt hp, lm8, lm2, lm1, l0, l1, l2, l3, l4, l5, l6, l7, l8, l9, l10, l11, l12, l13, l14, l15, l16, l17, l18, l19, l20, l21, l22, l23, l24, l25, l27, l31, l32, l40, l46, l48, l50, l57, l59, l63, l86, l96, l97, l100, l110, l114, l122, l127, l200, l255, l300, l319, l320, l340, l441, l456, l580, l600, l800, l886, l1206, l1526, J_add, J_sub, J_mul, J_neg, J_lt, J_le, J_eq, jT, jF, iT, iF, eT, eF, aT, aF, ite_true, ite_false, ite_not, bS]
theorem plT_la (W : AW T) {d v t : Int} (hv : vvT T d v) : laN (lnT T d v).toNat (fun q => decide (rwT T d v q = t)) = plT T d v t := by
  unfold plT
  have hl := W.2.2.2.2.1 d v hv
  rcases fiN_spec (lnT T d v).toNat (fun q => decide (rwT T d v q = t)) with ⟨e1, e2⟩ | ⟨i, hi, e1, e2, e3⟩ <;> rcases laN_spec (lnT T d v).toNat (fun q => decide (rwT T d v q = t)) with ⟨f1, f2⟩ | ⟨j, hj, f1, f2, f3⟩
  · rw [e1, f1]
  · rw [e2 j hj] at f2
    cases f2
  · rw [f2 i hi] at e2
    cases e2
  · rw [e1, f1]
    have a1 : rwT T d v i = t := by simpa using e2
    have a2 : rwT T d v j = t := by simpa using f2
    have := W.2.2.2.2.2.2.1 d v i j ⟨hv, by omega, by omega⟩ ⟨hv, by omega, by omega⟩ (by rw [a1, a2])
    omega
theorem RM.placeOf (H : RM h o T) {d v t : Int} (hv : vvT T d v) (h1 : -2147483648 ≤ t) (h2 : t < 2147483648) : m_X12_placeOf o (J d) (J v) (J t) h = some (J (plT T d v t)) := by
  have hb := H.wf.vb hv
  have hl := H.wf.2.2.2.2.1 d v hv
  have h5 := H.wf.2.2.2.1
  rw [← plT_la H.wf hv]
  unfold m_X12_placeOf l_X12_placeOf_6
  refine loop_run (fun i => (J (laN i (fun q => decide (rwT T d v q = t))), J i)) (lnT T d v).toNat (lt_FUEL (by omega)) (fun k i hi => ?_) (fun k => ?_)
  · have hp : ppT T d v i := ⟨hv, by omega, by omega⟩
    have hr := H.wf.2.2.2.2.2.1 d v i hp
    by_cases he : rwT T d v i = t
    · simp (disch := first | omega | exact he) only [b_X12_placeOf_6, j_X12_placeOf_36, rc_ok H.tag, H.longOf, H.tokenAt, lm8, lm2, lm1, l0, l1, l2, l3, l4, l5, l6, l7, l8, l9, l10, l11, l12, l13, l14, l15, l16, l17, l18, l19, l20, l21, l22, l23, l24, l25, l27, l31, l32, l40, l46, l48, l50, l57, l59, l63, l86, l96, l97, l100, l110, l114, l122, l127, l200, l255, l300, l319, l320, l340, l441, l456, l580, l600, l800, l886, l1206, l1526, J_add, J_sub, J_mul, J_neg, J_lt, J_le, J_eq, jT, jF, iT, iF, eT, eF, aT, aF, ite_true, ite_false, ite_not, bS, Int.natCast_add, Int.cast_ofNat_Int]
      simp [laN, he]
    · have he2 : rwT T d v i < t ∨ t < rwT T d v i := by omega
      simp (disch := first | omega | exact he2) only [b_X12_placeOf_6, j_X12_placeOf_36, rc_ok H.tag, H.longOf, H.tokenAt, lm8, lm2, lm1, l0, l1, l2, l3, l4, l5, l6, l7, l8, l9, l10, l11, l12, l13, l14, l15, l16, l17, l18, l19, l20, l21, l22, l23, l24, l25, l27, l31, l32, l40, l46, l48, l50, l57, l59, l63, l86, l96, l97, l100, l110, l114, l122, l127, l200, l255, l300, l319, l320, l340, l441, l456, l580, l600, l800, l886, l1206, l1526, J_add, J_sub, J_mul, J_neg, J_lt, J_le, J_eq, jT, jF, iT, iF, eT, eF, aT, aF, ite_true, ite_false, ite_not, bS, Int.natCast_add, Int.cast_ofNat_Int]
      simp [laN, he]
  · simp (disch := omega) only [b_X12_placeOf_6, rc_ok H.tag, H.longOf, lm8, lm2, lm1, l0, l1, l2, l3, l4, l5, l6, l7, l8, l9, l10, l11, l12, l13, l14, l15, l16, l17, l18, l19, l20, l21, l22, l23, l24, l25, l27, l31, l32, l40, l46, l48, l50, l57, l59, l63, l86, l96, l97, l100, l110, l114, l122, l127, l200, l255, l300, l319, l320, l340, l441, l456, l580, l600, l800, l886, l1206, l1526, J_add, J_sub, J_mul, J_neg, J_lt, J_le, J_eq, jT, jF, iT, iF, eT, eF, aT, aF, ite_true, ite_false, ite_not, bS, Int.toNat_of_nonneg]
end PL
