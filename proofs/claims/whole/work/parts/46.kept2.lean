/-! PURE PART: kept tokens, the class -/
section KF
variable {h : Hp} {o : Nat} {T : Int → Int}
theorem CA.kept (H : CA h o T) {x : Nat} {d : Int} (h0 : 0 ≤ d) (h1 : d < T 0) : m_X2_kept x o (J d) h = some (J (keT T d)) := by
  have hn := H.wf.n0
  have h5 := H.wf.n5
  have hc := H.wf.nv h0 (by omega)
  unfold m_X2_kept l_X2_kept_5 keT
  refine loop_run (fun i => (J (sumZ i (fun t => b01 (decide (owT T t = d) && decide (onN (stT T t) = T (1 + d))))), J i)) (T 5).toNat (lt_FUEL (by omega)) (fun k i hi => ?_) (fun k => ?_)
  · have hm := stT_lt H.wf (t := i) (by omega) (by omega)
    have ho := H.wf.2.2.2.2.2.2.2 i (by omega) (by omega)
    by_cases hd : owT T i = d
    · have hp : 2 ^ (T (1 + d)).toNat ≤ 2 ^ 10 := Nat.pow_le_pow_right (by decide) (by omega)
      have hlt : stT T i < 2 ^ (T (1 + d)).toNat := by
        have := setN_lt (T (1 + owT T i)).toNat (fun v => inV T (owT T i) v i)
        rw [hd] at this
        unfold stT
        rw [hd]
        exact this
      have hf := full_tab (T (1 + d)).toNat (by omega) _ hlt
      rw [Int.toNat_of_nonneg hc.1] at hf
      have hq : 2 ^ (T (1 + d)).toNat - 1 < 1024 := by omega
      simp (disch := first | omega | exact hd) only [b_X2_kept_5, j_X2_kept_29, j_X2_kept_56, rc_ok H.tag, H.f1, H.ownerOf, H.stayOf, H.everyVersion, lm8, lm2, lm1, l0, l1, l2, l3, l4, l5, l6, l7, l8, l9, l10, l11, l12, l13, l14, l15, l16, l17, l18, l19, l20, l21, l22, l23, l24, l25, l27, l31, l32, l40, l46, l48, l50, l57, l59, l63, l86, l96, l97, l100, l110, l114, l122, l127, l200, l255, l300, l319, l320, l340, l441, l456, l580, l600, l800, l886, l1206, l1526, J_add, J_sub, J_mul, J_neg, J_lt, J_le, J_eq, jT, jF, iT, iF, eT, eF, aT, aF, ite_true, ite_false, ite_not, bS, sumZ_succ, Int.natCast_add, Int.cast_ofNat_Int]
      rw [decide_eq_true hd, Bool.true_and, hf]
      have e : (((stT T i : Nat) : Int) = ((2 ^ (T (1 + d)).toNat - 1 : Nat) : Int)) = (stT T i = 2 ^ (T (1 + d)).toNat - 1) := by
        generalize 2 ^ (T (1 + d)).toNat - 1 = y
        exact propext (by omega)
      simp only [e, ib10, J_add]
    · have hd2 : owT T i < d ∨ d < owT T i := by omega
      simp (disch := first | omega | exact hd2) only [b_X2_kept_5, j_X2_kept_29, j_X2_kept_56, rc_ok H.tag, H.f1, H.ownerOf, lm8, lm2, lm1, l0, l1, l2, l3, l4, l5, l6, l7, l8, l9, l10, l11, l12, l13, l14, l15, l16, l17, l18, l19, l20, l21, l22, l23, l24, l25, l27, l31, l32, l40, l46, l48, l50, l57, l59, l63, l86, l96, l97, l100, l110, l114, l122, l127, l200, l255, l300, l319, l320, l340, l441, l456, l580, l600, l800, l886, l1206, l1526, J_add, J_sub, J_mul, J_neg, J_lt, J_le, J_eq, jT, jF, iT, iF, eT, eF, aT, aF, ite_true, ite_false, ite_not, bS, sumZ_succ, Int.natCast_add, Int.cast_ofNat_Int]
      rw [decide_eq_false hd, Bool.false_and]
      simp [b01]
  · simp (disch := omega) only [b_X2_kept_5, H.f1, lm8, lm2, lm1, l0, l1, l2, l3, l4, l5, l6, l7, l8, l9, l10, l11, l12, l13, l14, l15, l16, l17, l18, l19, l20, l21, l22, l23, l24, l25, l27, l31, l32, l40, l46, l48, l50, l57, l59, l63, l86, l96, l97, l100, l110, l114, l122, l127, l200, l255, l300, l319, l320, l340, l441, l456, l580, l600, l800, l886, l1206, l1526, J_add, J_sub, J_mul, J_neg, J_lt, J_le, J_eq, jT, jF, iT, iF, eT, eF, aT, aF, ite_true, ite_false, ite_not, bS, Int.toNat_of_nonneg]
end KF
