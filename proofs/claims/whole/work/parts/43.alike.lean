/-! PURE PART: versions of the same words, both sides -/
theorem wide_inj {a b : Int} (a1 : 1 ≤ a) (a2 : a < 531441) (a3 : a % 27 ≠ 0) (b1 : 1 ≤ b) (b2 : b < 531441) (b3 : b % 27 ≠ 0) (h : wide a = wide b) : a = b := by
  unfold wide at h
  split at h <;> split at h <;> (try split at h) <;> (try split at h) <;> (try split at h) <;> (try split at h) <;> omega
theorem wide_rg {a : Int} (a1 : 1 ≤ a) (a2 : a < 531441) : 19683 ≤ wide a ∧ wide a < 531441 := by
  unfold wide
  split
  · omega
  · split
    · omega
    · split <;> omega
/-- the first place where words differ, -1: nowhere -/
def dfT (T : Int → Int) (d v e w : Int) : Int := fiN (lnT T d v).toNat (fun q => decide (wdT T (rwT T d v q) ≠ wdT T (rwT T e w q)))
def alT (T : Int → Int) (d v e w : Int) : Bool := decide (lnT T d v = lnT T e w) && decide (dfT T d v e w = -1)
section AL
variable {h : Hp} {o : Nat} {T : Int → Int}
theorem AW.wd (W : AW T) {d v q : Int} (hp : ppT T d v q) : 1 ≤ wdT T (rwT T d v q) ∧ wdT T (rwT T d v q) < 531441 ∧ wdT T (rwT T d v q) % 27 ≠ 0 := by
  have hr := W.rw hp
  have := W.2.2.2.2.2.2.2 _ hr.1 hr.2.1
  exact ⟨this.2.2.1, this.2.2.2.1, this.2.2.2.2.1⟩
theorem CA.sameWords (H : CA h o T) {x : Nat} {d v e w : Int} (hv : vvT T d v) (hw : vvT T e w) : m_X2_sameWords x o (J d) (J v) (J e) (J w) h = some (J (b01 (alT T d v e w))) := by
  have h1 := H.wf.vb hv
  have h2 := H.wf.vb hw
  have h3 := H.wf.ln hv
  have h4 := H.wf.ln hw
  unfold alT
  by_cases hl : lnT T d v = lnT T e w
  · rw [decide_eq_true hl, Bool.true_and]
    simp (disch := first | omega | exact hl) only [m_X2_sameWords, rc_ok H.tag, H.lengthOf hv, H.lengthOf hw, lm8, lm2, lm1, l0, l1, l2, l3, l4, l5, l6, l7, l8, l9, l10, l11, l12, l13, l14, l15, l16, l17, l18, l19, l20, l21, l22, l23, l24, l25, l27, l31, l32, l40, l46, l48, l50, l57, l59, l63, l86, l96, l97, l100, l110, l114, l122, l127, l200, l255, l300, l319, l320, l340, l441, l456, l580, l600, l800, l886, l1206, l1526, J_add, J_sub, J_mul, J_neg, J_lt, J_le, J_eq, jT, jF, iT, iF, eT, eF, aT, aF, ite_true, ite_false, ite_not, bS]
    unfold l_X2_sameWords_26
    have step : ∀ (k : Int32 → Option Int32) (i : Nat), (i : Int) < lnT T d v → wdT T (rwT T d v i) = wdT T (rwT T e w i) → b_X2_sameWords_26 o (J d) (J v) (J e) (J w) (J (lnT T d v)) h (fun v7q => k v7q) (J i) = k (J ((i + 1 : Nat) : Int)) := by
      intro k i hi hq
      have p1 : ppT T d v i := ⟨hv, by omega, hi⟩
      have p2 : ppT T e w i := ⟨hw, by omega, by omega⟩
      have q1 := H.wf.wd p1
      have q2 := wide_rg q1.1 q1.2.1
      have q3 := H.wf.wd p2
      have q4 := wide_rg q3.1 q3.2.1
      have hq2 : wide (wdT T (rwT T d v i)) = wide (wdT T (rwT T e w i)) := by rw [hq]
      simp (disch := first | omega | exact hq2) only [b_X2_sameWords_26, rc_ok H.tag, H.spellingAt p1, H.spellingAt p2, lm8, lm2, lm1, l0, l1, l2, l3, l4, l5, l6, l7, l8, l9, l10, l11, l12, l13, l14, l15, l16, l17, l18, l19, l20, l21, l22, l23, l24, l25, l27, l31, l32, l40, l46, l48, l50, l57, l59, l63, l86, l96, l97, l100, l110, l114, l122, l127, l200, l255, l300, l319, l320, l340, l441, l456, l580, l600, l800, l886, l1206, l1526, J_add, J_sub, J_mul, J_neg, J_lt, J_le, J_eq, jT, jF, iT, iF, eT, eF, aT, aF, ite_true, ite_false, ite_not, bS, Int.natCast_add, Int.cast_ofNat_Int]
    unfold dfT
    rcases fiN_spec (lnT T d v).toNat (fun q => decide (wdT T (rwT T d v q) ≠ wdT T (rwT T e w q))) with ⟨e1, e2⟩ | ⟨i, hi, e1, e2, e3⟩
    · rw [e1]
      refine loop_run (fun i => J i) (lnT T d v).toNat (lt_FUEL (by omega)) (fun k i hi => ?_) (fun k => ?_)
      · exact step k i (by omega) (by have := e2 i hi; simpa using this)
      · simp (disch := omega) only [b_X2_sameWords_26, lm8, lm2, lm1, l0, l1, l2, l3, l4, l5, l6, l7, l8, l9, l10, l11, l12, l13, l14, l15, l16, l17, l18, l19, l20, l21, l22, l23, l24, l25, l27, l31, l32, l40, l46, l48, l50, l57, l59, l63, l86, l96, l97, l100, l110, l114, l122, l127, l200, l255, l300, l319, l320, l340, l441, l456, l580, l600, l800, l886, l1206, l1526, J_add, J_sub, J_mul, J_neg, J_lt, J_le, J_eq, jT, jF, iT, iF, eT, eF, aT, aF, ite_true, ite_false, ite_not, bS, Int.toNat_of_nonneg]
        rfl
    · rw [e1]
      refine loop_run (fun i => J i) i (lt_FUEL (by omega)) (fun k j hj => ?_) (fun k => ?_)
      · exact step k j (by omega) (by have := e3 j hj; simpa using this)
      · have p1 : ppT T d v i := ⟨hv, by omega, by omega⟩
        have p2 : ppT T e w i := ⟨hw, by omega, by omega⟩
        have q1 := H.wf.wd p1
        have q2 := wide_rg q1.1 q1.2.1
        have q3 := H.wf.wd p2
        have q4 := wide_rg q3.1 q3.2.1
        have hne : wdT T (rwT T d v i) ≠ wdT T (rwT T e w i) := by simpa using e2
        have hq2 : wide (wdT T (rwT T d v i)) < wide (wdT T (rwT T e w i)) ∨ wide (wdT T (rwT T e w i)) < wide (wdT T (rwT T d v i)) := by
          have : wide (wdT T (rwT T d v i)) ≠ wide (wdT T (rwT T e w i)) := fun q => hne (wide_inj q1.1 q1.2.1 q1.2.2 q3.1 q3.2.1 q3.2.2 q)
          omega
        rw [decide_eq_false (by omega)]
        simp (disch := first | omega | exact hq2) only [b_X2_sameWords_26, rc_ok H.tag, H.spellingAt p1, H.spellingAt p2, lm8, lm2, lm1, l0, l1, l2, l3, l4, l5, l6, l7, l8, l9, l10, l11, l12, l13, l14, l15, l16, l17, l18, l19, l20, l21, l22, l23, l24, l25, l27, l31, l32, l40, l46, l48, l50, l57, l59, l63, l86, l96, l97, l100, l110, l114, l122, l127, l200, l255, l300, l319, l320, l340, l441, l456, l580, l600, l800, l886, l1206, l1526, J_add, J_sub, J_mul, J_neg, J_lt, J_le, J_eq, jT, jF, iT, iF, eT, eF, aT, aF, ite_true, ite_false, ite_not, bS]
        rfl
  · rw [decide_eq_false hl, Bool.false_and]
    have hl2 : lnT T d v < lnT T e w ∨ lnT T e w < lnT T d v := by omega
    simp (disch := first | omega | exact hl2) only [m_X2_sameWords, rc_ok H.tag, H.lengthOf hv, H.lengthOf hw, lm8, lm2, lm1, l0, l1, l2, l3, l4, l5, l6, l7, l8, l9, l10, l11, l12, l13, l14, l15, l16, l17, l18, l19, l20, l21, l22, l23, l24, l25, l27, l31, l32, l40, l46, l48, l50, l57, l59, l63, l86, l96, l97, l100, l110, l114, l122, l127, l200, l255, l300, l319, l320, l340, l441, l456, l580, l600, l800, l886, l1206, l1526, J_add, J_sub, J_mul, J_neg, J_lt, J_le, J_eq, jT, jF, iT, iF, eT, eF, aT, aF, ite_true, ite_false, ite_not, bS]
    rfl
end AL
