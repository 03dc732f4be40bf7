/-! PURE PART: fresh tokens, postings, kept ones, both sides -/
theorem low_tab : ∀ v, v < 10 → ∀ m, m < 1024 → Int32.ofInt (m : Nat) &&& (ishlF 1 (Int32.ofInt (v : Nat)) - 1) = Int32.ofInt ((m % 2 ^ v : Nat)) := by decide +kernel
theorem fst_low : ∀ v : Nat, v < 10 → ∀ m : Nat, m < 1024 → m.testBit v = true → decide (fiN 10 (fun v => m.testBit v) = (v : Int)) = decide (m % 2 ^ v = 0) := by decide +kernel
theorem fi_rg : ∀ m, m < 1024 → -1 ≤ fiN 10 (fun v => m.testBit v) ∧ fiN 10 (fun v => m.testBit v) < 10 := by decide +kernel
theorem inV_at {T : Int → Int} {d v q : Int} (hp : ppT T d v q) : inV T d v (rwT T d v q) = true := inV_iff.mpr ⟨q, hp.2.1, hp.2.2, rfl⟩
theorem stT_at {T : Int → Int} (W : AW T) {d v q : Int} (hp : ppT T d v q) : (stT T (rwT T d v q)).testBit v.toNat = true := by
  have e := bt_stT (W.2.2.2.2.2.1 d v q hp).2.2 hp.1
  rw [inV_at hp] at e
  unfold bt at e
  rw [Bool.and_eq_true] at e
  exact e.2
section H2
variable {h : Hp} {o : Nat} {T : Int → Int}
theorem CA.fresh (H : CA h o T) {x : Nat} {d v : Int} (hv : vvT T d v) : m_X2_fresh x o (J d) (J v) h = some (J (sumZ (lnT T d v) (fun q => b01 (decide (stT T (rwT T d v q) % 2 ^ v.toNat = 0))))) := by
  have h1 := H.wf.vb hv
  have h3 := H.wf.ln hv
  have h5 := H.wf.n5
  unfold m_X2_fresh l_X2_fresh_6
  refine loop_run (fun i => (J (sumZ i (fun q => b01 (decide (stT T (rwT T d v q) % 2 ^ v.toNat = 0)))), J i)) (lnT T d v).toNat (lt_FUEL (by omega)) (fun k i hi => ?_) (fun k => ?_)
  · have hp : ppT T d v i := ⟨hv, by omega, by omega⟩
    have hr := H.wf.rw hp
    have hm := stT_lt H.wf hr.1 hr.2.1
    have hg := fi_rg _ hm
    have hf := fst_low v.toNat (by omega) _ hm (stT_at H.wf hp)
    rw [Int.toNat_of_nonneg h1.2.2.1] at hf
    simp (disch := omega) only [b_X2_fresh_6, j_X2_fresh_47, rc_ok H.tag, H.lengthOf hv, H.tokenAt hp, H.stayOf, X5_firstBit_ok hm, lm8, lm2, lm1, l0, l1, l2, l3, l4, l5, l6, l7, l8, l9, l10, l11, l12, l13, l14, l15, l16, l17, l18, l19, l20, l21, l22, l23, l24, l25, l27, l31, l32, l40, l46, l48, l50, l57, l59, l63, l86, l96, l97, l100, l110, l114, l122, l127, l200, l255, l300, l319, l320, l340, l441, l456, l580, l600, l800, l886, l1206, l1526, J_add, J_sub, J_mul, J_neg, J_lt, J_le, J_eq, jT, jF, iT, iF, eT, eF, aT, aF, ite_true, ite_false, ite_not, bS, ib10, sumZ_succ, Int.natCast_add, Int.cast_ofNat_Int, hf]
  · simp (disch := omega) only [b_X2_fresh_6, rc_ok H.tag, H.lengthOf hv, lm8, lm2, lm1, l0, l1, l2, l3, l4, l5, l6, l7, l8, l9, l10, l11, l12, l13, l14, l15, l16, l17, l18, l19, l20, l21, l22, l23, l24, l25, l27, l31, l32, l40, l46, l48, l50, l57, l59, l63, l86, l96, l97, l100, l110, l114, l122, l127, l200, l255, l300, l319, l320, l340, l441, l456, l580, l600, l800, l886, l1206, l1526, J_add, J_sub, J_mul, J_neg, J_lt, J_le, J_eq, jT, jF, iT, iF, eT, eF, aT, aF, ite_true, ite_false, ite_not, bS, Int.toNat_of_nonneg]
theorem RM.fresh (H : RM h o T) {d v : Int} (hv : vvT T d v) : m_X12_fresh o (J d) (J v) h = some (J (sumZ (lnT T d v) (fun q => b01 (decide (stT T (rwT T d v q) % 2 ^ v.toNat = 0))))) := by
  have h1 := H.wf.vb hv
  have h3 := H.wf.ln hv
  have h5 := H.wf.n5
  unfold m_X12_fresh l_X12_fresh_5
  refine loop_run (fun i => (J (sumZ i (fun q => b01 (decide (stT T (rwT T d v q) % 2 ^ v.toNat = 0)))), J i)) (lnT T d v).toNat (lt_FUEL (by omega)) (fun k i hi => ?_) (fun k => ?_)
  · have hp : ppT T d v i := ⟨hv, by omega, by omega⟩
    have hr := H.wf.rw hp
    have hm := stT_lt H.wf hr.1 hr.2.1
    have hl := low_tab v.toNat (by omega) _ hm
    rw [Int.toNat_of_nonneg h1.2.2.1] at hl
    have hq : stT T (rwT T d v i) % 2 ^ v.toNat < 1024 := Nat.lt_of_le_of_lt (Nat.mod_le _ _) hm
    have hl2 : J (stT T (rwT T d v i) : Nat) &&& (ishlF (J 1) (J v) - J 1) = J ((stT T (rwT T d v i) % 2 ^ v.toNat : Nat)) := hl
    simp (disch := omega) only [b_X12_fresh_5, j_X12_fresh_43, rc_ok H.tag, H.longOf, H.tokenAt, H.whereIs, l0, l1, J_le, iF, bS, hl2]
    simp (disch := omega) only [lm8, lm2, lm1, l0, l1, l2, l3, l4, l5, l6, l7, l8, l9, l10, l11, l12, l13, l14, l15, l16, l17, l18, l19, l20, l21, l22, l23, l24, l25, l27, l31, l32, l40, l46, l48, l50, l57, l59, l63, l86, l96, l97, l100, l110, l114, l122, l127, l200, l255, l300, l319, l320, l340, l441, l456, l580, l600, l800, l886, l1206, l1526, J_add, J_sub, J_mul, J_neg, J_lt, J_le, J_eq, jT, jF, iT, iF, eT, eF, aT, aF, ite_true, ite_false, ite_not, bS, ib10, sumZ_succ, Int.natCast_add, Int.cast_ofNat_Int]
    have e : decide (((stT T (rwT T d v i) % 2 ^ v.toNat : Nat) : Int) = 0) = decide (stT T (rwT T d v i) % 2 ^ v.toNat = 0) := by
      generalize stT T (rwT T d v i) % 2 ^ v.toNat = y
      exact decide_eq_decide.mpr (by omega)
    rw [e]
  · simp (disch := omega) only [b_X12_fresh_5, rc_ok H.tag, H.longOf, lm8, lm2, lm1, l0, l1, l2, l3, l4, l5, l6, l7, l8, l9, l10, l11, l12, l13, l14, l15, l16, l17, l18, l19, l20, l21, l22, l23, l24, l25, l27, l31, l32, l40, l46, l48, l50, l57, l59, l63, l86, l96, l97, l100, l110, l114, l122, l127, l200, l255, l300, l319, l320, l340, l441, l456, l580, l600, l800, l886, l1206, l1526, J_add, J_sub, J_mul, J_neg, J_lt, J_le, J_eq, jT, jF, iT, iF, eT, eF, aT, aF, ite_true, ite_false, ite_not, bS, Int.toNat_of_nonneg]
end H2
