/-! PURE PART: kept and lost tokens, both sides -/
theorem every_tab : ∀ n, n < 11 → ishlF 1 (Int32.ofInt (n : Nat)) - 1 = Int32.ofInt ((2 ^ n - 1 : Nat)) := by decide +kernel
theorem full_tab : ∀ n, n < 11 → ∀ m, m < 2 ^ n → decide (onN m = (n : Nat)) = decide (m = 2 ^ n - 1) := by decide +kernel
theorem onN_rg : ∀ m, m < 1024 → 0 ≤ onN m ∧ onN m ≤ 10 := by decide +kernel
section KE
variable {h : Hp} {o : Nat} {T : Int → Int}
theorem CA.everyVersion (H : CA h o T) {d : Int} (h0 : 0 ≤ d) (h1 : d < 4) : m_X0_everyVersion o (J d) h = some (J ((2 ^ (T (1 + d)).toNat - 1 : Nat))) := by
  have hc := H.wf.nv h0 h1
  have e := every_tab (T (1 + d)).toNat (by omega)
  rw [Int.toNat_of_nonneg hc.1] at e
  have e2 : ishlF (J 1) (J (T (1 + d))) - J 1 = J ((2 ^ (T (1 + d)).toNat - 1 : Nat)) := e
  simp (disch := omega) only [m_X0_everyVersion, rc_ok H.tag, H.versionsOf, bS, l1]
  rw [e2]
def keT (T : Int → Int) (d : Int) : Int := sumZ (T 5) (fun t => b01 (decide (owT T t = d) && decide (onN (stT T t) = T (1 + d))))
theorem RM.keptIn (H : RM h o T) {d : Int} (h0 : 0 ≤ d) (h1 : d < T 0) : m_X12_keptIn o (J d) h = some (J (keT T d)) := by
  have hn := H.wf.n0
  have h5 := H.wf.n5
  have hc := H.wf.nv h0 (by omega)
  unfold m_X12_keptIn l_X12_keptIn_4 keT
  refine loop_run (fun i => (J (sumZ i (fun t => b01 (decide (owT T t = d) && decide (onN (stT T t) = T (1 + d))))), J i)) (T 5).toNat (lt_FUEL (by omega)) (fun k i hi => ?_) (fun k => ?_)
  · have hm := stT_lt H.wf (t := i) (by omega) (by omega)
    have ho := H.wf.2.2.2.2.2.2.2 i (by omega) (by omega)
    have hg := onN_rg _ hm
    by_cases hd : owT T i = d
    · have hd2 : T (1206 + (i : Int)) = d := hd
      simp (disch := first | omega | exact hd2) only [b_X12_keptIn_4, j_X12_keptIn_48, rc_ok H.tag, H.f24, H.1.r18, H.told, H.whereIs, H.versions, X12_ones_ok hm, lm8, lm2, lm1, l0, l1, l2, l3, l4, l5, l6, l7, l8, l9, l10, l11, l12, l13, l14, l15, l16, l17, l18, l19, l20, l21, l22, l23, l24, l25, l27, l31, l32, l40, l46, l48, l50, l57, l59, l63, l86, l96, l97, l100, l110, l114, l122, l127, l200, l255, l300, l319, l320, l340, l441, l456, l580, l600, l800, l886, l1206, l1526, J_add, J_sub, J_mul, J_neg, J_lt, J_le, J_eq, jT, jF, iT, iF, eT, eF, aT, aF, ite_true, ite_false, ite_not, bS, ib10, sumZ_succ, Int.natCast_add, Int.cast_ofNat_Int]
      rw [decide_eq_true hd, Bool.true_and]
    · have hd2 : T (1206 + (i : Int)) < d ∨ d < T (1206 + (i : Int)) := by unfold owT at hd; omega
      have hr : -2147483648 ≤ T (1206 + (i : Int)) ∧ T (1206 + (i : Int)) < 2147483648 := by unfold owT at ho; omega
      simp (disch := first | omega | exact hd2) only [b_X12_keptIn_4, j_X12_keptIn_48, rc_ok H.tag, H.f24, H.1.r18, H.told, lm8, lm2, lm1, l0, l1, l2, l3, l4, l5, l6, l7, l8, l9, l10, l11, l12, l13, l14, l15, l16, l17, l18, l19, l20, l21, l22, l23, l24, l25, l27, l31, l32, l40, l46, l48, l50, l57, l59, l63, l86, l96, l97, l100, l110, l114, l122, l127, l200, l255, l300, l319, l320, l340, l441, l456, l580, l600, l800, l886, l1206, l1526, J_add, J_sub, J_mul, J_neg, J_lt, J_le, J_eq, jT, jF, iT, iF, eT, eF, aT, aF, ite_true, ite_false, ite_not, bS, sumZ_succ, Int.natCast_add, Int.cast_ofNat_Int]
      rw [decide_eq_false hd, Bool.false_and]
      simp [b01]
  · simp (disch := omega) only [b_X12_keptIn_4, H.f24, lm8, lm2, lm1, l0, l1, l2, l3, l4, l5, l6, l7, l8, l9, l10, l11, l12, l13, l14, l15, l16, l17, l18, l19, l20, l21, l22, l23, l24, l25, l27, l31, l32, l40, l46, l48, l50, l57, l59, l63, l86, l96, l97, l100, l110, l114, l122, l127, l200, l255, l300, l319, l320, l340, l441, l456, l580, l600, l800, l886, l1206, l1526, J_add, J_sub, J_mul, J_neg, J_lt, J_le, J_eq, jT, jF, iT, iF, eT, eF, aT, aF, ite_true, ite_false, ite_not, bS, Int.toNat_of_nonneg]
end KE
