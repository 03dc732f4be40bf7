/-! PURE PART: what follows from where questions hold, the reference; spans -/
section FR2
variable {h : Hp} {o : Nat} {T Q : Int → Int}
theorem RHe.cell (C : RHe h o T Q (Q 0)) (H : RM h o T) (W : QW Q) {k d : Int} (k0 : 0 ≤ k) (k1 : k < Q 0) (d0 : 0 ≤ d) (d1 : d < 4) : alI h (o + 14) (J (4 * k + d)) = some (J (HE T Q k d : Nat)) := by
  have hsz := W.1
  rw [alI_ok H.1.a29 (by omega) (by omega) (by omega), C k d k0 k1 d0 d1]
theorem RM.versionsBy (H : RM h o T) (W : QW Q) (C : RHe h o T Q (Q 0)) {k : Int} (k0 : 0 ≤ k) (k1 : k < Q 0) : m_X12_versionsBy o (J k) h = some (J (vhT T Q k)) := by
  have h0 := H.wf.n0
  unfold m_X12_versionsBy l_X12_versionsBy_4 vhT
  refine loop_int (fun i => (J (sumZ i (fun d => onN (HE T Q k d))), J i)) (T 0) h0.1 (by omega) rfl (fun k_ i hi hi2 => ?_) (fun k_ => ?_)
  · have e := C.cell H W k0 k1 hi (show i < 4 by omega)
    have hl := HE_lt (T := T) H.wf W k0 k1 hi (show i < 4 by omega)
    rw [sumZ_succ hi]
    simp (disch := omega) only [b_X12_versionsBy_4, H.1.r18, H.told, H.1.r29, e, X12_ones_ok hl, lm8, lm2, lm1, l0, l1, l2, l3, l4, l5, l6, l7, l8, l9, l10, l11, l12, l13, l14, l15, l16, l17, l18, l19, l20, l21, l22, l23, l24, l25, l27, l31, l32, l40, l46, l48, l50, l57, l59, l63, l86, l96, l97, l100, l110, l114, l122, l127, l200, l255, l300, l319, l320, l340, l441, l456, l580, l600, l800, l886, l1206, l1526, J_add, J_sub, J_mul, J_neg, J_lt, J_le, J_eq, jT, jF, iT, iF, eT, eF, aT, aF, ite_true, ite_false, ite_not, bs]
  · simp (disch := omega) only [b_X12_versionsBy_4, H.1.r18, H.told, lm8, lm2, lm1, l0, l1, l2, l3, l4, l5, l6, l7, l8, l9, l10, l11, l12, l13, l14, l15, l16, l17, l18, l19, l20, l21, l22, l23, l24, l25, l27, l31, l32, l40, l46, l48, l50, l57, l59, l63, l86, l96, l97, l100, l110, l114, l122, l127, l200, l255, l300, l319, l320, l340, l441, l456, l580, l600, l800, l886, l1206, l1526, J_add, J_sub, J_mul, J_neg, J_lt, J_le, J_eq, jT, jF, iT, iF, eT, eF, aT, aF, ite_true, ite_false, ite_not, bs]
theorem RM.docsBy (H : RM h o T) (W : QW Q) (C : RHe h o T Q (Q 0)) {k : Int} (k0 : 0 ≤ k) (k1 : k < Q 0) {b : Bool} : m_X12_docsBy o (J k) (J (b01 b)) h = some (J (bif b then alwT T Q k else evT T Q k : Nat)) := by
  have h0 := H.wf.n0
  unfold m_X12_docsBy l_X12_docsBy_5
  cases b
  · rw [cond_false]
    unfold evT
    refine loop_int (fun i => (J (setN i.toNat (fun d => decide (HE T Q k d ≠ 0)) : Nat), J i)) (T 0) h0.1 (by omega) rfl (fun k_ i hi hi2 => ?_) (fun k_ => ?_)
    · have e := C.cell H W k0 k1 hi (show i < 4 by omega)
      have hl := HE_lt (T := T) H.wf W k0 k1 hi (show i < 4 by omega)
      have es := set_or (f := fun d => decide (HE T Q k d ≠ 0)) hi (by omega)
      rw [← es]
      by_cases hz : HE T Q k i = 0
      · rw [decide_eq_false (fun q => q hz), cond_false]
        rw [hz] at e
        simp (disch := omega) only [b_X12_docsBy_5, j_X12_docsBy_64, j_X12_docsBy_56, H.1.r18, H.told, H.1.r29, e, lm8, lm2, lm1, l0, l1, l2, l3, l4, l5, l6, l7, l8, l9, l10, l11, l12, l13, l14, l15, l16, l17, l18, l19, l20, l21, l22, l23, l24, l25, l27, l31, l32, l40, l46, l48, l50, l57, l59, l63, l86, l96, l97, l100, l110, l114, l122, l127, l200, l255, l300, l319, l320, l340, l441, l456, l580, l600, l800, l886, l1206, l1526, J_add, J_sub, J_mul, J_neg, J_lt, J_le, J_eq, jT, jF, iT, iF, eT, eF, aT, aF, ite_true, ite_false, ite_not, bs, bI, cond_false, J_or0]
      · rw [decide_eq_true hz, cond_true]
        simp (disch := omega) only [b_X12_docsBy_5, j_X12_docsBy_64, j_X12_docsBy_56, H.1.r18, H.told, H.1.r29, e, lm8, lm2, lm1, l0, l1, l2, l3, l4, l5, l6, l7, l8, l9, l10, l11, l12, l13, l14, l15, l16, l17, l18, l19, l20, l21, l22, l23, l24, l25, l27, l31, l32, l40, l46, l48, l50, l57, l59, l63, l86, l96, l97, l100, l110, l114, l122, l127, l200, l255, l300, l319, l320, l340, l441, l456, l580, l600, l800, l886, l1206, l1526, J_add, J_sub, J_mul, J_neg, J_lt, J_le, J_eq, jT, jF, iT, iF, eT, eF, aT, aF, ite_true, ite_false, ite_not, bs, bI, cond_false]
    · simp (disch := omega) only [b_X12_docsBy_5, H.1.r18, H.told, lm8, lm2, lm1, l0, l1, l2, l3, l4, l5, l6, l7, l8, l9, l10, l11, l12, l13, l14, l15, l16, l17, l18, l19, l20, l21, l22, l23, l24, l25, l27, l31, l32, l40, l46, l48, l50, l57, l59, l63, l86, l96, l97, l100, l110, l114, l122, l127, l200, l255, l300, l319, l320, l340, l441, l456, l580, l600, l800, l886, l1206, l1526, J_add, J_sub, J_mul, J_neg, J_lt, J_le, J_eq, jT, jF, iT, iF, eT, eF, aT, aF, ite_true, ite_false, ite_not, bs]
  · rw [cond_true]
    unfold alwT
    refine loop_int (fun i => (J (setN i.toNat (fun d => decide (HE T Q k d = 2 ^ (T (1 + d)).toNat - 1)) : Nat), J i)) (T 0) h0.1 (by omega) rfl (fun k_ i hi hi2 => ?_) (fun k_ => ?_)
    · have e := C.cell H W k0 k1 hi (show i < 4 by omega)
      have hl := HE_lt (T := T) H.wf W k0 k1 hi (show i < 4 by omega)
      have hl2 := HE_lt2 (T := T) (d := i) W k0 k1
      have hc := H.wf.nv hi (by omega)
      have hf := full_tab (T (1 + i)).toNat (by omega) _ hl2
      rw [Int.toNat_of_nonneg hc.1] at hf
      have hon := onN_rg _ hl
      have es := set_or (f := fun d => decide (HE T Q k d = 2 ^ (T (1 + d)).toNat - 1)) hi (by omega)
      rw [← es]
      dsimp only
      rw [← hf]
      by_cases hz : onN (HE T Q k i) = T (1 + i)
      · rw [decide_eq_true hz, cond_true]
        simp (disch := first | omega | exact hz) only [b_X12_docsBy_5, j_X12_docsBy_64, j_X12_docsBy_56, rc_ok H.tag, H.1.r18, H.told, H.1.r29, H.versions, e, X12_ones_ok hl, lm8, lm2, lm1, l0, l1, l2, l3, l4, l5, l6, l7, l8, l9, l10, l11, l12, l13, l14, l15, l16, l17, l18, l19, l20, l21, l22, l23, l24, l25, l27, l31, l32, l40, l46, l48, l50, l57, l59, l63, l86, l96, l97, l100, l110, l114, l122, l127, l200, l255, l300, l319, l320, l340, l441, l456, l580, l600, l800, l886, l1206, l1526, J_add, J_sub, J_mul, J_neg, J_lt, J_le, J_eq, jT, jF, iT, iF, eT, eF, aT, aF, ite_true, ite_false, ite_not, bs, bI, cond_true]
      · rw [decide_eq_false hz, cond_false]
        simp (disch := omega) only [b_X12_docsBy_5, j_X12_docsBy_64, j_X12_docsBy_56, rc_ok H.tag, H.1.r18, H.told, H.1.r29, H.versions, e, X12_ones_ok hl, lm8, lm2, lm1, l0, l1, l2, l3, l4, l5, l6, l7, l8, l9, l10, l11, l12, l13, l14, l15, l16, l17, l18, l19, l20, l21, l22, l23, l24, l25, l27, l31, l32, l40, l46, l48, l50, l57, l59, l63, l86, l96, l97, l100, l110, l114, l122, l127, l200, l255, l300, l319, l320, l340, l441, l456, l580, l600, l800, l886, l1206, l1526, J_add, J_sub, J_mul, J_neg, J_lt, J_le, J_eq, jT, jF, iT, iF, eT, eF, aT, aF, ite_true, ite_false, ite_not, bs, bI, cond_true, J_or0]
    · simp (disch := omega) only [b_X12_docsBy_5, H.1.r18, H.told, lm8, lm2, lm1, l0, l1, l2, l3, l4, l5, l6, l7, l8, l9, l10, l11, l12, l13, l14, l15, l16, l17, l18, l19, l20, l21, l22, l23, l24, l25, l27, l31, l32, l40, l46, l48, l50, l57, l59, l63, l86, l96, l97, l100, l110, l114, l122, l127, l200, l255, l300, l319, l320, l340, l441, l456, l580, l600, l800, l886, l1206, l1526, J_add, J_sub, J_mul, J_neg, J_lt, J_le, J_eq, jT, jF, iT, iF, eT, eF, aT, aF, ite_true, ite_false, ite_not, bs]
theorem RM.asOf (H : RM h o T) (D : DW T) (W : QW Q) (C : RHe h o T Q (Q 0)) {k t : Int} (k0 : 0 ≤ k) (k1 : k < Q 0) (t0 : -2147483648 ≤ t) (t1 : t < 2147483648) : m_X12_asOf o (J k) (J t) h = some (J (aoT T Q k t : Nat)) := by
  have h0 := H.wf.n0
  have hv0 := nvT_rg H.wf
  have inner : ∀ (d : Int) (K : Int32 → Option Int32) (a : Int32), 0 ≤ d → d < T 0 → l_X12_asOf_22 o (J k) (J t) a (J d) h K (J (-1)) (J 0) = K (J (ltT T d t)) := by
    intro d K a d0 d1
    have hc := H.wf.nv d0 (by omega)
    unfold l_X12_asOf_22 ltT
    refine loop_int (fun i => (J (laZ i (fun v => decide (dtT T d v ≤ t))), J i)) (T (1 + d)) hc.1 (by omega) rfl (fun k_ i hi hi2 => ?_) (fun k_ => ?_)
    · have hv : vvT T d i := ⟨d0, d1, hi, hi2⟩
      have hdt : 0 ≤ T (6 + (10 * d + i)) ∧ T (6 + (10 * d + i)) < nvT T := D d i hv
      rw [laZ_succ hi]
      unfold dtT
      by_cases hz : T (6 + (10 * d + i)) ≤ t
      · rw [decide_eq_true hz, if_pos rfl]
        simp (disch := omega) only [b_X12_asOf_22, j_X12_asOf_59, rc_ok H.tag, H.versions, H.1.r18, X12_at_ok, H.told, lm8, lm2, lm1, l0, l1, l2, l3, l4, l5, l6, l7, l8, l9, l10, l11, l12, l13, l14, l15, l16, l17, l18, l19, l20, l21, l22, l23, l24, l25, l27, l31, l32, l40, l46, l48, l50, l57, l59, l63, l86, l96, l97, l100, l110, l114, l122, l127, l200, l255, l300, l319, l320, l340, l441, l456, l580, l600, l800, l886, l1206, l1526, J_add, J_sub, J_mul, J_neg, J_lt, J_le, J_eq, jT, jF, iT, iF, eT, eF, aT, aF, ite_true, ite_false, ite_not, bs]
      · rw [decide_eq_false hz, if_neg (by decide)]
        simp (disch := omega) only [b_X12_asOf_22, j_X12_asOf_59, rc_ok H.tag, H.versions, H.1.r18, X12_at_ok, H.told, lm8, lm2, lm1, l0, l1, l2, l3, l4, l5, l6, l7, l8, l9, l10, l11, l12, l13, l14, l15, l16, l17, l18, l19, l20, l21, l22, l23, l24, l25, l27, l31, l32, l40, l46, l48, l50, l57, l59, l63, l86, l96, l97, l100, l110, l114, l122, l127, l200, l255, l300, l319, l320, l340, l441, l456, l580, l600, l800, l886, l1206, l1526, J_add, J_sub, J_mul, J_neg, J_lt, J_le, J_eq, jT, jF, iT, iF, eT, eF, aT, aF, ite_true, ite_false, ite_not, bs]
    · simp (disch := omega) only [b_X12_asOf_22, rc_ok H.tag, H.versions, lm8, lm2, lm1, l0, l1, l2, l3, l4, l5, l6, l7, l8, l9, l10, l11, l12, l13, l14, l15, l16, l17, l18, l19, l20, l21, l22, l23, l24, l25, l27, l31, l32, l40, l46, l48, l50, l57, l59, l63, l86, l96, l97, l100, l110, l114, l122, l127, l200, l255, l300, l319, l320, l340, l441, l456, l580, l600, l800, l886, l1206, l1526, J_add, J_sub, J_mul, J_neg, J_lt, J_le, J_eq, jT, jF, iT, iF, eT, eF, aT, aF, ite_true, ite_false, ite_not, bs]
  unfold m_X12_asOf l_X12_asOf_5 aoT
  refine loop_int (fun i => (J (setN i.toNat (fun d => bt (HE T Q k d) (ltT T d t)) : Nat), J i)) (T 0) h0.1 (by omega) rfl (fun k_ i hi hi2 => ?_) (fun k_ => ?_)
  · have e := C.cell H W k0 k1 hi (show i < 4 by omega)
    have hl := HE_lt (T := T) H.wf W k0 k1 hi (show i < 4 by omega)
    have hlt := ltT_rg H.wf hi (show i < 4 by omega) (t := t)
    have ei := fun K a => inner i K a hi hi2
    have es := set_or (f := fun d => bt (HE T Q k d) (ltT T d t)) hi (by omega)
    rw [← es]
    dsimp only
    generalize ltT T i t = lt at *
    by_cases hm : lt = -1
    · rw [hm, bt_neg, cond_false]
      rw [hm] at ei
      simp (disch := omega) only [b_X12_asOf_5, j_X12_asOf_67, j_X12_asOf_101, H.1.r18, H.told, ei, lm8, lm2, lm1, l0, l1, l2, l3, l4, l5, l6, l7, l8, l9, l10, l11, l12, l13, l14, l15, l16, l17, l18, l19, l20, l21, l22, l23, l24, l25, l27, l31, l32, l40, l46, l48, l50, l57, l59, l63, l86, l96, l97, l100, l110, l114, l122, l127, l200, l255, l300, l319, l320, l340, l441, l456, l580, l600, l800, l886, l1206, l1526, J_add, J_sub, J_mul, J_neg, J_lt, J_le, J_eq, jT, jF, iT, iF, eT, eF, aT, aF, ite_true, ite_false, ite_not, bs, J_or0]
    · have eb := X12_has_ok (h := h) (v := lt) hl (by omega) (by omega)
      cases hz : bt (HE T Q k i) lt
      · rw [hz] at eb
        rw [cond_false]
        simp (disch := omega) only [b_X12_asOf_5, j_X12_asOf_67, j_X12_asOf_101, H.1.r18, H.told, ei, H.1.r29, e, eb, lm8, lm2, lm1, l0, l1, l2, l3, l4, l5, l6, l7, l8, l9, l10, l11, l12, l13, l14, l15, l16, l17, l18, l19, l20, l21, l22, l23, l24, l25, l27, l31, l32, l40, l46, l48, l50, l57, l59, l63, l86, l96, l97, l100, l110, l114, l122, l127, l200, l255, l300, l319, l320, l340, l441, l456, l580, l600, l800, l886, l1206, l1526, J_add, J_sub, J_mul, J_neg, J_lt, J_le, J_eq, jT, jF, iT, iF, eT, eF, aT, aF, ite_true, ite_false, ite_not, bs, bI, cond_false, J_or0]
      · rw [hz] at eb
        rw [cond_true]
        simp (disch := omega) only [b_X12_asOf_5, j_X12_asOf_67, j_X12_asOf_101, H.1.r18, H.told, ei, H.1.r29, e, eb, lm8, lm2, lm1, l0, l1, l2, l3, l4, l5, l6, l7, l8, l9, l10, l11, l12, l13, l14, l15, l16, l17, l18, l19, l20, l21, l22, l23, l24, l25, l27, l31, l32, l40, l46, l48, l50, l57, l59, l63, l86, l96, l97, l100, l110, l114, l122, l127, l200, l255, l300, l319, l320, l340, l441, l456, l580, l600, l800, l886, l1206, l1526, J_add, J_sub, J_mul, J_neg, J_lt, J_le, J_eq, jT, jF, iT, iF, eT, eF, aT, aF, ite_true, ite_false, ite_not, bs, bI, cond_true]
  · simp (disch := omega) only [b_X12_asOf_5, H.1.r18, H.told, lm8, lm2, lm1, l0, l1, l2, l3, l4, l5, l6, l7, l8, l9, l10, l11, l12, l13, l14, l15, l16, l17, l18, l19, l20, l21, l22, l23, l24, l25, l27, l31, l32, l40, l46, l48, l50, l57, l59, l63, l86, l96, l97, l100, l110, l114, l122, l127, l200, l255, l300, l319, l320, l340, l441, l456, l580, l600, l800, l886, l1206, l1526, J_add, J_sub, J_mul, J_neg, J_lt, J_le, J_eq, jT, jF, iT, iF, eT, eF, aT, aF, ite_true, ite_false, ite_not, bs]
theorem RM.changes (H : RM h o T) (D : DW T) (W : QW Q) (C : RHe h o T Q (Q 0)) {k i : Int} (k0 : 0 ≤ k) (k1 : k < Q 0) (i0 : -1 ≤ i) (i1 : i < 2147483648) : m_X12_changes o (J k) (J i) h = some (J (if i = -1 then chT T Q k else caT T Q k i)) := by
  have hv0 := nvT_rg H.wf
  have step : ∀ (t : Int) (K : Int32 → Option Int32) (k_ : Int32 → Int32 → Int32 → Option Int32), 0 ≤ t → t < 100 → b_X12_changes_8 o (J k) (J i) h K k_ (J (sumZ t (fun t => b01 (chB T Q k t)))) (J (aoT T Q k (t - 1) : Nat)) (J t) = if (chB T Q k t && decide (sumZ t (fun t => b01 (chB T Q k t)) = i)) = true then some (J t) else k_ (J (sumZ (t + 1) (fun t => b01 (chB T Q k t)))) (J (aoT T Q k t : Nat)) (J (t + 1)) := by
    intro t K k_ t0 t1
    have e1 := H.asOf D W C k0 k1 (t := t) (by omega) (by omega)
    have l1_ := aoT_lt (Q := Q) H.wf (k := k) (t := t)
    have l2_ := aoT_lt (Q := Q) H.wf (k := k) (t := t - 1)
    have hs := ch_sum (T := T) (Q := Q) (k := k) t0
    rw [sumZ_succ t0]
    generalize sumZ t (fun t => b01 (chB T Q k t)) = s at *
    have hch : chB T Q k t = decide (aoT T Q k t ≠ aoT T Q k (t - 1)) := rfl
    rw [hch]
    generalize aoT T Q k t = a at *
    generalize aoT T Q k (t - 1) = b at *
    by_cases hz : a = b
    · subst hz
      rw [decide_eq_false (fun q => q rfl), Bool.false_and, if_neg (by decide)]
      simp (disch := omega) only [b_X12_changes_8, j_X12_changes_42, rc_ok H.tag, e1, lm8, lm2, lm1, l0, l1, l2, l3, l4, l5, l6, l7, l8, l9, l10, l11, l12, l13, l14, l15, l16, l17, l18, l19, l20, l21, l22, l23, l24, l25, l27, l31, l32, l40, l46, l48, l50, l57, l59, l63, l86, l96, l97, l100, l110, l114, l122, l127, l200, l255, l300, l319, l320, l340, l441, l456, l580, l600, l800, l886, l1206, l1526, J_add, J_sub, J_mul, J_neg, J_lt, J_le, J_eq, jT, jF, iT, iF, eT, eF, aT, aF, ite_true, ite_false, ite_not, bs]
      rw [show b01 false = 0 from rfl, Int.add_zero]
    · rw [decide_eq_true hz, Bool.true_and]
      by_cases hy : s = i
      · rw [if_pos (decide_eq_true hy)]
        simp (disch := omega) only [b_X12_changes_8, j_X12_changes_42, rc_ok H.tag, e1, lm8, lm2, lm1, l0, l1, l2, l3, l4, l5, l6, l7, l8, l9, l10, l11, l12, l13, l14, l15, l16, l17, l18, l19, l20, l21, l22, l23, l24, l25, l27, l31, l32, l40, l46, l48, l50, l57, l59, l63, l86, l96, l97, l100, l110, l114, l122, l127, l200, l255, l300, l319, l320, l340, l441, l456, l580, l600, l800, l886, l1206, l1526, J_add, J_sub, J_mul, J_neg, J_lt, J_le, J_eq, jT, jF, iT, iF, eT, eF, aT, aF, ite_true, ite_false, ite_not, bs]
      · rw [if_neg (by rw [decide_eq_false hy]; decide)]
        simp (disch := omega) only [b_X12_changes_8, j_X12_changes_42, rc_ok H.tag, e1, lm8, lm2, lm1, l0, l1, l2, l3, l4, l5, l6, l7, l8, l9, l10, l11, l12, l13, l14, l15, l16, l17, l18, l19, l20, l21, l22, l23, l24, l25, l27, l31, l32, l40, l46, l48, l50, l57, l59, l63, l86, l96, l97, l100, l110, l114, l122, l127, l200, l255, l300, l319, l320, l340, l441, l456, l580, l600, l800, l886, l1206, l1526, J_add, J_sub, J_mul, J_neg, J_lt, J_le, J_eq, jT, jF, iT, iF, eT, eF, aT, aF, ite_true, ite_false, ite_not, bs]
        rfl
  have hsum : sumZ 100 (fun t => b01 (chB T Q k t)) = chT T Q k := sumZ_cut hv0.1 (by omega) (fun t t0 _ => by rw [ch_high H.wf D t0]; rfl)
  have hfi : fiZ 100 (fun t => chB T Q k t && decide (sumZ t (fun t => b01 (chB T Q k t)) = i)) = caT T Q k i := fiZ_cut hv0.1 (by omega) (fun t t0 _ => by rw [ch_high H.wf D t0]; rfl)
  have hs100 := ch_sum (T := T) (Q := Q) (k := k) (i := 100) (by omega)
  unfold m_X12_changes l_X12_changes_8
  refine (loop_find (fun t => (J (sumZ t (fun t => b01 (chB T Q k t))), J (aoT T Q k (t - 1) : Nat), J t)) 100 (fun t => chB T Q k t && decide (sumZ t (fun t => b01 (chB T Q k t)) = i)) (fun t => some (J (if t = -1 then (if i = -1 then chT T Q k else -1) else t))) (by omega) (by omega) (by rw [show (0 : Int) - 1 = -1 from rfl, ao_neg D]; rfl) (fun k_ t t0 t1 hp => ?_) (fun k_ t t0 t1 hp => ?_) (fun k_ => ?_)).trans ?_
  · refine (step t _ _ t0 t1).trans ?_
    rw [if_neg (by rw [hp]; decide), show t + 1 - 1 = t by omega]
  · refine (step t _ _ t0 t1).trans ?_
    rw [if_pos hp, if_neg (by omega)]
  · rw [if_pos rfl]
    show b_X12_changes_8 o (J k) (J i) h (fun a1_3 => j_X12_changes_52 (J i) a1_3 h) _ (J (sumZ 100 (fun t => b01 (chB T Q k t)))) _ (J 100) = _
    rw [hsum]
    by_cases hi : i = -1
    · simp (disch := omega) only [b_X12_changes_8, j_X12_changes_52, j_X12_changes_62, lm8, lm2, lm1, l0, l1, l2, l3, l4, l5, l6, l7, l8, l9, l10, l11, l12, l13, l14, l15, l16, l17, l18, l19, l20, l21, l22, l23, l24, l25, l27, l31, l32, l40, l46, l48, l50, l57, l59, l63, l86, l96, l97, l100, l110, l114, l122, l127, l200, l255, l300, l319, l320, l340, l441, l456, l580, l600, l800, l886, l1206, l1526, J_add, J_sub, J_mul, J_neg, J_lt, J_le, J_eq, jT, jF, iT, iF, eT, eF, aT, aF, ite_true, ite_false, ite_not, bs]
    · simp (disch := omega) only [b_X12_changes_8, j_X12_changes_52, j_X12_changes_62, lm8, lm2, lm1, l0, l1, l2, l3, l4, l5, l6, l7, l8, l9, l10, l11, l12, l13, l14, l15, l16, l17, l18, l19, l20, l21, l22, l23, l24, l25, l27, l31, l32, l40, l46, l48, l50, l57, l59, l63, l86, l96, l97, l100, l110, l114, l122, l127, l200, l255, l300, l319, l320, l340, l441, l456, l580, l600, l800, l886, l1206, l1526, J_add, J_sub, J_mul, J_neg, J_lt, J_le, J_eq, jT, jF, iT, iF, eT, eF, aT, aF, ite_true, ite_false, ite_not, bs]
  · rw [hfi]
    by_cases hi : i = -1
    · have hn : caT T Q k i = -1 := by
        unfold caT
        refine fiZ_none (fun t t0 t1 => ?_)
        have := ch_sum (T := T) (Q := Q) (k := k) t0
        rw [decide_eq_false (by omega), Bool.and_false]
      rw [hn, if_pos rfl, if_pos hi]
    · rw [if_neg hi, if_neg hi]
      by_cases hc : caT T Q k i = -1
      · rw [if_pos hc, hc]
      · rw [if_neg hc]
theorem RM.rankOf (H : RM h o T) (W : QW Q) (C : RHe h o T Q (Q 0)) {k d : Int} (k0 : 0 ≤ k) (k1 : k < Q 0) (d0 : 0 ≤ d) (d1 : d < T 0) : m_X12_rankOf o (J k) (J d) h = some (J (rfT T Q k d)) := by
  have h0 := H.wf.n0
  have e := C.cell H W k0 k1 d0 (show d < 4 by omega)
  have hl := HE_lt (T := T) H.wf W k0 k1 d0 (show d < 4 by omega)
  have hc := H.wf.2.1 d d0 d1
  have eb := X12_has_ok (h := h) (v := T (1 + d) - 1) hl (by omega) (by omega)
  unfold rfT laB
  simp (disch := omega) only [m_X12_rankOf, j_X12_rankOf_43, rc_ok H.tag, H.1.r29, e, X12_ones_ok hl, H.versions, eb, lm8, lm2, lm1, l0, l1, l2, l3, l4, l5, l6, l7, l8, l9, l10, l11, l12, l13, l14, l15, l16, l17, l18, l19, l20, l21, l22, l23, l24, l25, l27, l31, l32, l40, l46, l48, l50, l57, l59, l63, l86, l96, l97, l100, l110, l114, l122, l127, l200, l255, l300, l319, l320, l340, l441, l456, l580, l600, l800, l886, l1206, l1526, J_add, J_sub, J_mul, J_neg, J_lt, J_le, J_eq, jT, jF, iT, iF, eT, eF, aT, aF, ite_true, ite_false, ite_not, bs, bI, bJ]
theorem RM.rank (H : RM h o T) (W : QW Q) (C : RHe h o T Q (Q 0)) {k i : Int} (k0 : 0 ≤ k) (k1 : k < Q 0) (i0 : -2147483648 ≤ i) (i1 : i < 2147483648) : m_X12_rank o (J k) (J i) h = some (J (rkT T Q k i)) := by
  have h0 := H.wf.n0
  have rr : ∀ d, 0 ≤ d → d < T 0 → 0 ≤ rfT T Q k d ∧ rfT T Q k d ≤ 21 := fun d d0 d1 => by
    have := rf_rg H.wf W k0 k1 d0 (show d < 4 by omega)
    unfold rfT
    omega
  have inner : ∀ (d : Int) (K : Int32 → Option Int32), 0 ≤ d → d < T 0 → l_X12_rank_18 o (J k) (J i) (J d) h K (J 0) (J 0) = K (J (sumZ (T 0) (fun e => b01 (ahB T Q k e d)))) := by
    intro d K d0 d1
    have ed := H.rankOf W C k0 k1 d0 d1
    have rd := rr d d0 d1
    unfold l_X12_rank_18
    refine loop_int (fun e => (J (sumZ e (fun e => b01 (ahB T Q k e d))), J e)) (T 0) h0.1 (by omega) rfl (fun k_ e e0 e1 => ?_) (fun k_ => ?_)
    · have ee := H.rankOf W C k0 k1 e0 e1
      have re := rr e e0 e1
      rw [sumZ_succ e0]
      unfold ahB
      generalize sumZ e (fun e => b01 (decide (rfT T Q k d < rfT T Q k e ∨ (rfT T Q k e = rfT T Q k d ∧ e < d)))) = s at *
      generalize rfT T Q k d = x at *
      generalize rfT T Q k e = y at *
      by_cases c1 : x < y
      · rw [decide_eq_true (Or.inl c1)]
        simp (disch := omega) only [b_X12_rank_18, j_X12_rank_74, H.1.r18, H.told, rc_ok H.tag, ed, ee, lm8, lm2, lm1, l0, l1, l2, l3, l4, l5, l6, l7, l8, l9, l10, l11, l12, l13, l14, l15, l16, l17, l18, l19, l20, l21, l22, l23, l24, l25, l27, l31, l32, l40, l46, l48, l50, l57, l59, l63, l86, l96, l97, l100, l110, l114, l122, l127, l200, l255, l300, l319, l320, l340, l441, l456, l580, l600, l800, l886, l1206, l1526, J_add, J_sub, J_mul, J_neg, J_lt, J_le, J_eq, jT, jF, iT, iF, eT, eF, aT, aF, ite_true, ite_false, ite_not, bs]
        rfl
      · by_cases c2 : y = x
        · by_cases c3 : e < d
          · rw [decide_eq_true (Or.inr ⟨c2, c3⟩)]
            simp (disch := omega) only [b_X12_rank_18, j_X12_rank_74, H.1.r18, H.told, rc_ok H.tag, ed, ee, lm8, lm2, lm1, l0, l1, l2, l3, l4, l5, l6, l7, l8, l9, l10, l11, l12, l13, l14, l15, l16, l17, l18, l19, l20, l21, l22, l23, l24, l25, l27, l31, l32, l40, l46, l48, l50, l57, l59, l63, l86, l96, l97, l100, l110, l114, l122, l127, l200, l255, l300, l319, l320, l340, l441, l456, l580, l600, l800, l886, l1206, l1526, J_add, J_sub, J_mul, J_neg, J_lt, J_le, J_eq, jT, jF, iT, iF, eT, eF, aT, aF, ite_true, ite_false, ite_not, bs]
            rfl
          · rw [decide_eq_false (by omega)]
            simp (disch := omega) only [b_X12_rank_18, j_X12_rank_74, H.1.r18, H.told, rc_ok H.tag, ed, ee, lm8, lm2, lm1, l0, l1, l2, l3, l4, l5, l6, l7, l8, l9, l10, l11, l12, l13, l14, l15, l16, l17, l18, l19, l20, l21, l22, l23, l24, l25, l27, l31, l32, l40, l46, l48, l50, l57, l59, l63, l86, l96, l97, l100, l110, l114, l122, l127, l200, l255, l300, l319, l320, l340, l441, l456, l580, l600, l800, l886, l1206, l1526, J_add, J_sub, J_mul, J_neg, J_lt, J_le, J_eq, jT, jF, iT, iF, eT, eF, aT, aF, ite_true, ite_false, ite_not, bs]
            rfl
        · rw [decide_eq_false (by omega)]
          simp (disch := omega) only [b_X12_rank_18, j_X12_rank_74, H.1.r18, H.told, rc_ok H.tag, ed, ee, lm8, lm2, lm1, l0, l1, l2, l3, l4, l5, l6, l7, l8, l9, l10, l11, l12, l13, l14, l15, l16, l17, l18, l19, l20, l21, l22, l23, l24, l25, l27, l31, l32, l40, l46, l48, l50, l57, l59, l63, l86, l96, l97, l100, l110, l114, l122, l127, l200, l255, l300, l319, l320, l340, l441, l456, l580, l600, l800, l886, l1206, l1526, J_add, J_sub, J_mul, J_neg, J_lt, J_le, J_eq, jT, jF, iT, iF, eT, eF, aT, aF, ite_true, ite_false, ite_not, bs]
          rfl
    · simp (disch := omega) only [b_X12_rank_18, H.1.r18, H.told, lm8, lm2, lm1, l0, l1, l2, l3, l4, l5, l6, l7, l8, l9, l10, l11, l12, l13, l14, l15, l16, l17, l18, l19, l20, l21, l22, l23, l24, l25, l27, l31, l32, l40, l46, l48, l50, l57, l59, l63, l86, l96, l97, l100, l110, l114, l122, l127, l200, l255, l300, l319, l320, l340, l441, l456, l580, l600, l800, l886, l1206, l1526, J_add, J_sub, J_mul, J_neg, J_lt, J_le, J_eq, jT, jF, iT, iF, eT, eF, aT, aF, ite_true, ite_false, ite_not, bs]
  unfold m_X12_rank l_X12_rank_2 rkT
  refine loop_find (fun d => J d) (T 0) (fun d => decide (sumZ (T 0) (fun e => b01 (ahB T Q k e d)) = i)) (fun d => some (J d)) h0.1 (by omega) rfl (fun k_ d d0 d1 hp => ?_) (fun k_ d d0 d1 hp => ?_) (fun k_ => ?_)
  · have hs := ah_sum (T := T) (Q := Q) (k := k) (d := d) h0.1
    have e := fun K => inner d K d0 d1
    have hp2 : ¬ sumZ (T 0) (fun e => b01 (ahB T Q k e d)) = i := by simpa using hp
    simp (disch := omega) only [b_X12_rank_2, j_X12_rank_83, H.1.r18, H.told, e, lm8, lm2, lm1, l0, l1, l2, l3, l4, l5, l6, l7, l8, l9, l10, l11, l12, l13, l14, l15, l16, l17, l18, l19, l20, l21, l22, l23, l24, l25, l27, l31, l32, l40, l46, l48, l50, l57, l59, l63, l86, l96, l97, l100, l110, l114, l122, l127, l200, l255, l300, l319, l320, l340, l441, l456, l580, l600, l800, l886, l1206, l1526, J_add, J_sub, J_mul, J_neg, J_lt, J_le, J_eq, jT, jF, iT, iF, eT, eF, aT, aF, ite_true, ite_false, ite_not, bs]
  · have hs := ah_sum (T := T) (Q := Q) (k := k) (d := d) h0.1
    have e := fun K => inner d K d0 d1
    have hp2 : sumZ (T 0) (fun e => b01 (ahB T Q k e d)) = i := by simpa using hp
    simp (disch := omega) only [b_X12_rank_2, j_X12_rank_83, H.1.r18, H.told, e, lm8, lm2, lm1, l0, l1, l2, l3, l4, l5, l6, l7, l8, l9, l10, l11, l12, l13, l14, l15, l16, l17, l18, l19, l20, l21, l22, l23, l24, l25, l27, l31, l32, l40, l46, l48, l50, l57, l59, l63, l86, l96, l97, l100, l110, l114, l122, l127, l200, l255, l300, l319, l320, l340, l441, l456, l580, l600, l800, l886, l1206, l1526, J_add, J_sub, J_mul, J_neg, J_lt, J_le, J_eq, jT, jF, iT, iF, eT, eF, aT, aF, ite_true, ite_false, ite_not, bs]
  · simp (disch := omega) only [b_X12_rank_2, H.1.r18, H.told, lm8, lm2, lm1, l0, l1, l2, l3, l4, l5, l6, l7, l8, l9, l10, l11, l12, l13, l14, l15, l16, l17, l18, l19, l20, l21, l22, l23, l24, l25, l27, l31, l32, l40, l46, l48, l50, l57, l59, l63, l86, l96, l97, l100, l110, l114, l122, l127, l200, l255, l300, l319, l320, l340, l441, l456, l580, l600, l800, l886, l1206, l1526, J_add, J_sub, J_mul, J_neg, J_lt, J_le, J_eq, jT, jF, iT, iF, eT, eF, aT, aF, ite_true, ite_false, ite_not, bs]
theorem RM.isWithin (H : RM h o T) (W : QW Q) (C : RHe h o T Q (Q 0)) {a b : Int} (a0 : 0 ≤ a) (a1 : a < Q 0) (b0 : 0 ≤ b) (b1 : b < Q 0) : m_X12_isWithin o (J a) (J b) h = some (J (b01 (wiB T Q a b))) := by
  have h0 := H.wf.n0
  have ew : wiB T Q a b = !anyZ (T 0) (fun d => !nsB (HE T Q a d) (HE T Q b d)) := by
    unfold wiB
    rw [← fiZ_any]
    rcases fiZ_spec (T 0) (fun d => !nsB (HE T Q a d) (HE T Q b d)) with ⟨e1, _⟩ | ⟨e1, _⟩
    · rw [e1]
      rfl
    · rw [decide_eq_false (by omega), decide_eq_true e1]
      rfl
  rw [ew]
  unfold m_X12_isWithin l_X12_isWithin_5
  refine loop_int (fun d => (J (b01 (!anyZ d (fun d => !nsB (HE T Q a d) (HE T Q b d)))), J d)) (T 0) h0.1 (by omega) rfl (fun k_ d d0 d1 => ?_) (fun k_ => ?_)
  · have ea := C.cell H W a0 a1 d0 (show d < 4 by omega)
    have eb := C.cell H W b0 b1 d0 (show d < 4 by omega)
    rw [anyZ_succ d0]
    cases hA : anyZ d (fun d => !nsB (HE T Q a d) (HE T Q b d))
    · rw [Bool.false_or, Bool.not_not]
      cases hn : nsB (HE T Q a d) (HE T Q b d)
      · have hp3 := of_decide_eq_false hn
        simp (disch := omega) only [b_X12_isWithin_5, j_X12_isWithin_53, H.1.r18, H.told, H.1.r29, ea, eb, lm8, lm2, lm1, l0, l1, l2, l3, l4, l5, l6, l7, l8, l9, l10, l11, l12, l13, l14, l15, l16, l17, l18, l19, l20, l21, l22, l23, l24, l25, l27, l31, l32, l40, l46, l48, l50, l57, l59, l63, l86, l96, l97, l100, l110, l114, l122, l127, l200, l255, l300, l319, l320, l340, l441, l456, l580, l600, l800, l886, l1206, l1526, J_add, J_sub, J_mul, J_neg, J_lt, J_le, J_eq, jT, jF, iT, iF, eT, eF, aT, aF, ite_true, ite_false, ite_not, bs, bI, Bool.not_false, cond_true, if_neg hp3]
        rfl
      · have hp3 := of_decide_eq_true hn
        simp (disch := omega) only [b_X12_isWithin_5, j_X12_isWithin_53, H.1.r18, H.told, H.1.r29, ea, eb, lm8, lm2, lm1, l0, l1, l2, l3, l4, l5, l6, l7, l8, l9, l10, l11, l12, l13, l14, l15, l16, l17, l18, l19, l20, l21, l22, l23, l24, l25, l27, l31, l32, l40, l46, l48, l50, l57, l59, l63, l86, l96, l97, l100, l110, l114, l122, l127, l200, l255, l300, l319, l320, l340, l441, l456, l580, l600, l800, l886, l1206, l1526, J_add, J_sub, J_mul, J_neg, J_lt, J_le, J_eq, jT, jF, iT, iF, eT, eF, aT, aF, ite_true, ite_false, ite_not, bs, bI, Bool.not_false, cond_true, hp3]
        rfl
    · rw [Bool.true_or]
      simp (disch := omega) only [b_X12_isWithin_5, j_X12_isWithin_53, H.1.r18, H.told, lm8, lm2, lm1, l0, l1, l2, l3, l4, l5, l6, l7, l8, l9, l10, l11, l12, l13, l14, l15, l16, l17, l18, l19, l20, l21, l22, l23, l24, l25, l27, l31, l32, l40, l46, l48, l50, l57, l59, l63, l86, l96, l97, l100, l110, l114, l122, l127, l200, l255, l300, l319, l320, l340, l441, l456, l580, l600, l800, l886, l1206, l1526, J_add, J_sub, J_mul, J_neg, J_lt, J_le, J_eq, jT, jF, iT, iF, eT, eF, aT, aF, ite_true, ite_false, ite_not, bs, bI, Bool.not_true, cond_false]
      rfl
  · simp (disch := omega) only [b_X12_isWithin_5, j_X12_isWithin_60, H.1.r18, H.told, lm8, lm2, lm1, l0, l1, l2, l3, l4, l5, l6, l7, l8, l9, l10, l11, l12, l13, l14, l15, l16, l17, l18, l19, l20, l21, l22, l23, l24, l25, l27, l31, l32, l40, l46, l48, l50, l57, l59, l63, l86, l96, l97, l100, l110, l114, l122, l127, l200, l255, l300, l319, l320, l340, l441, l456, l580, l600, l800, l886, l1206, l1526, J_add, J_sub, J_mul, J_neg, J_lt, J_le, J_eq, jT, jF, iT, iF, eT, eF, aT, aF, ite_true, ite_false, ite_not, bs, zbB]
theorem RM.samePairs (H : RM h o T) (G : RQ h o Q) (C : RHe h o T Q (Q 0)) : m_X12_samePairs o h = some (J (saT T Q)) := by
  have hsz := G.2.1.1
  have inner : ∀ (a : Int) (K : Int32 → Option Int32) (c : Int), 0 ≤ a → a < Q 0 → l_X12_samePairs_14 o (J a) h K (J c) (J 0) = K (J (c + sumZ a (fun b => b01 (wiB T Q a b && wiB T Q b a)))) := by
    intro a K c a0 a1
    unfold l_X12_samePairs_14
    refine loop_int (fun b => (J (c + sumZ b (fun b => b01 (wiB T Q a b && wiB T Q b a))), J b)) a a0 (by omega) (by simp [sumZ_0]) (fun k_ b b0 b1 => ?_) (fun k_ => ?_)
    · have e1 := H.isWithin G.2.1 C a0 a1 b0 (show b < Q 0 by omega)
      have e2 := H.isWithin G.2.1 C b0 (show b < Q 0 by omega) a0 a1
      rw [sumZ_succ b0]
      cases hz : wiB T Q a b
      · rw [hz] at e1
        simp (disch := omega) only [b_X12_samePairs_14, j_X12_samePairs_43, rc_ok H.tag, e1, lm8, lm2, lm1, l0, l1, l2, l3, l4, l5, l6, l7, l8, l9, l10, l11, l12, l13, l14, l15, l16, l17, l18, l19, l20, l21, l22, l23, l24, l25, l27, l31, l32, l40, l46, l48, l50, l57, l59, l63, l86, l96, l97, l100, l110, l114, l122, l127, l200, l255, l300, l319, l320, l340, l441, l456, l580, l600, l800, l886, l1206, l1526, J_add, J_sub, J_mul, J_neg, J_lt, J_le, J_eq, jT, jF, iT, iF, eT, eF, aT, aF, ite_true, ite_false, ite_not, bs, bI, cond_false, Bool.false_and]
        rw [show b01 false = 0 from rfl, Int.add_zero, Int.add_zero]
      · rw [hz] at e1
        simp (disch := omega) only [b_X12_samePairs_14, j_X12_samePairs_43, rc_ok H.tag, e1, e2, lm8, lm2, lm1, l0, l1, l2, l3, l4, l5, l6, l7, l8, l9, l10, l11, l12, l13, l14, l15, l16, l17, l18, l19, l20, l21, l22, l23, l24, l25, l27, l31, l32, l40, l46, l48, l50, l57, l59, l63, l86, l96, l97, l100, l110, l114, l122, l127, l200, l255, l300, l319, l320, l340, l441, l456, l580, l600, l800, l886, l1206, l1526, J_add, J_sub, J_mul, J_neg, J_lt, J_le, J_eq, jT, jF, iT, iF, eT, eF, aT, aF, ite_true, ite_false, ite_not, bs, bI, bJ, cond_true, Bool.true_and, Int.add_assoc]
    · simp (disch := omega) only [b_X12_samePairs_14, lm8, lm2, lm1, l0, l1, l2, l3, l4, l5, l6, l7, l8, l9, l10, l11, l12, l13, l14, l15, l16, l17, l18, l19, l20, l21, l22, l23, l24, l25, l27, l31, l32, l40, l46, l48, l50, l57, l59, l63, l86, l96, l97, l100, l110, l114, l122, l127, l200, l255, l300, l319, l320, l340, l441, l456, l580, l600, l800, l886, l1206, l1526, J_add, J_sub, J_mul, J_neg, J_lt, J_le, J_eq, jT, jF, iT, iF, eT, eF, aT, aF, ite_true, ite_false, ite_not, bs]
  unfold m_X12_samePairs l_X12_samePairs_4 saT
  refine loop_int (fun a => (J (sumZ a (fun a => sumZ a (fun b => b01 (wiB T Q a b && wiB T Q b a)))), J a)) (Q 0) hsz.1 (by omega) rfl (fun k_ a a0 a1 => ?_) (fun k_ => ?_)
  · have e := fun K c => inner a K c a0 a1
    rw [sumZ_succ a0]
    simp (disch := omega) only [b_X12_samePairs_4, j_X12_samePairs_51, rc_ok H.tag, G.many, e, lm8, lm2, lm1, l0, l1, l2, l3, l4, l5, l6, l7, l8, l9, l10, l11, l12, l13, l14, l15, l16, l17, l18, l19, l20, l21, l22, l23, l24, l25, l27, l31, l32, l40, l46, l48, l50, l57, l59, l63, l86, l96, l97, l100, l110, l114, l122, l127, l200, l255, l300, l319, l320, l340, l441, l456, l580, l600, l800, l886, l1206, l1526, J_add, J_sub, J_mul, J_neg, J_lt, J_le, J_eq, jT, jF, iT, iF, eT, eF, aT, aF, ite_true, ite_false, ite_not, bs]
  · simp (disch := omega) only [b_X12_samePairs_4, rc_ok H.tag, G.many, lm8, lm2, lm1, l0, l1, l2, l3, l4, l5, l6, l7, l8, l9, l10, l11, l12, l13, l14, l15, l16, l17, l18, l19, l20, l21, l22, l23, l24, l25, l27, l31, l32, l40, l46, l48, l50, l57, l59, l63, l86, l96, l97, l100, l110, l114, l122, l127, l200, l255, l300, l319, l320, l340, l441, l456, l580, l600, l800, l886, l1206, l1526, J_add, J_sub, J_mul, J_neg, J_lt, J_le, J_eq, jT, jF, iT, iF, eT, eF, aT, aF, ite_true, ite_false, ite_not, bs]
theorem RM.bestAsking (H : RM h o T) (G : RQ h o Q) (C : RHe h o T Q (Q 0)) : m_X12_bestAsking o h = some (J (lgZ (Q 0) (vhT T Q))) := by
  have hsz := G.2.1.1
  unfold m_X12_bestAsking l_X12_bestAsking_4
  refine loop_int (fun i => (J (lgZ i (vhT T Q)), J i)) (Q 0) hsz.1 (by omega) rfl (fun k i hi hi2 => ?_) (fun k => ?_)
  · have e1 := H.versionsBy G.2.1 C hi hi2
    have r1 := vh_rg H.wf G.2.1 hi hi2
    rw [lgZ_succ hi]
    rcases lgZ_rg (f := vhT T Q) hi with hg | hg
    · rw [if_pos (Or.inl hg.2)]
      simp (disch := omega) only [b_X12_bestAsking_4, j_X12_bestAsking_35, rc_ok H.tag, G.many, hg.2, lm8, lm2, lm1, l0, l1, l2, l3, l4, l5, l6, l7, l8, l9, l10, l11, l12, l13, l14, l15, l16, l17, l18, l19, l20, l21, l22, l23, l24, l25, l27, l31, l32, l40, l46, l48, l50, l57, l59, l63, l86, l96, l97, l100, l110, l114, l122, l127, l200, l255, l300, l319, l320, l340, l441, l456, l580, l600, l800, l886, l1206, l1526, J_add, J_sub, J_mul, J_neg, J_lt, J_le, J_eq, jT, jF, iT, iF, eT, eF, aT, aF, ite_true, ite_false, ite_not, bs]
    · have e2 := H.versionsBy G.2.1 C hg.1 (show lgZ i (vhT T Q) < Q 0 by omega)
      have r2 := vh_rg H.wf G.2.1 hg.1 (show lgZ i (vhT T Q) < Q 0 by omega)
      by_cases hc : vhT T Q (lgZ i (vhT T Q)) < vhT T Q i
      · rw [if_pos (Or.inr hc)]
        simp (disch := omega) only [b_X12_bestAsking_4, j_X12_bestAsking_35, rc_ok H.tag, G.many, e1, e2, lm8, lm2, lm1, l0, l1, l2, l3, l4, l5, l6, l7, l8, l9, l10, l11, l12, l13, l14, l15, l16, l17, l18, l19, l20, l21, l22, l23, l24, l25, l27, l31, l32, l40, l46, l48, l50, l57, l59, l63, l86, l96, l97, l100, l110, l114, l122, l127, l200, l255, l300, l319, l320, l340, l441, l456, l580, l600, l800, l886, l1206, l1526, J_add, J_sub, J_mul, J_neg, J_lt, J_le, J_eq, jT, jF, iT, iF, eT, eF, aT, aF, ite_true, ite_false, ite_not, bs]
      · rw [if_neg (by omega)]
        simp (disch := omega) only [b_X12_bestAsking_4, j_X12_bestAsking_35, rc_ok H.tag, G.many, e1, e2, lm8, lm2, lm1, l0, l1, l2, l3, l4, l5, l6, l7, l8, l9, l10, l11, l12, l13, l14, l15, l16, l17, l18, l19, l20, l21, l22, l23, l24, l25, l27, l31, l32, l40, l46, l48, l50, l57, l59, l63, l86, l96, l97, l100, l110, l114, l122, l127, l200, l255, l300, l319, l320, l340, l441, l456, l580, l600, l800, l886, l1206, l1526, J_add, J_sub, J_mul, J_neg, J_lt, J_le, J_eq, jT, jF, iT, iF, eT, eF, aT, aF, ite_true, ite_false, ite_not, bs]
  · simp (disch := omega) only [b_X12_bestAsking_4, rc_ok H.tag, G.many, lm8, lm2, lm1, l0, l1, l2, l3, l4, l5, l6, l7, l8, l9, l10, l11, l12, l13, l14, l15, l16, l17, l18, l19, l20, l21, l22, l23, l24, l25, l27, l31, l32, l40, l46, l48, l50, l57, l59, l63, l86, l96, l97, l100, l110, l114, l122, l127, l200, l255, l300, l319, l320, l340, l441, l456, l580, l600, l800, l886, l1206, l1526, J_add, J_sub, J_mul, J_neg, J_lt, J_le, J_eq, jT, jF, iT, iF, eT, eF, aT, aF, ite_true, ite_false, ite_not, bs]
/-- the number of the row of versions at a place -/
def stB (m : Nat) (j : Int) : Bool := bt m j && !bt m (j - 1)
def nuZ (m : Nat) (j : Int) : Int := sumZ j (fun i => b01 (stB m i)) - 1
def rwB (m : Nat) (s j : Int) : Bool := bt m j && decide (nuZ m (j + 1) = s)
theorem nu_tab : ∀ m, m < 1024 → ∀ v : Nat, v < 10 → bt m v = true → 0 ≤ nuZ m ((v : Int) + 1) ∧ nuZ m ((v : Int) + 1) < 6 := by decide +kernel
theorem sp_tab : ∀ m, m < 1024 → ∀ s : Nat, s < 6 → fiZ 10 (fun v => rwB m s v && stB m v) = fiZ 10 (fun v => rwB m s v) ∧ fiZ 10 (fun v => rwB m s v && !bt m (v + 1)) = laZ 10 (fun v => rwB m s v) := by decide +kernel
theorem rw_none {m : Nat} (hm : m < 1024) {s : Int} (hs : s < 0 ∨ 6 ≤ s) {v : Int} (h0 : 0 ≤ v) (h1 : v < 10) : rwB m s v = false := by
  unfold rwB
  cases hb : bt m v
  · rfl
  · have := nu_tab m hm v.toNat (by omega) (by rw [Int.toNat_of_nonneg h0]; exact hb)
    rw [Int.toNat_of_nonneg h0] at this
    rw [decide_eq_false (by omega)]
    rfl
theorem sp_first {m : Nat} (hm : m < 1024) {s : Int} : fiZ 10 (fun v => rwB m s v && stB m v) = fiZ 10 (fun v => rwB m s v) := by
  by_cases hs : 0 ≤ s ∧ s < 6
  · have := (sp_tab m hm s.toNat (by omega)).1
    rw [Int.toNat_of_nonneg hs.1] at this
    exact this
  · rw [fiZ_none (fun v v0 v1 => by rw [rw_none hm (by omega) v0 v1]; rfl), fiZ_none (fun v v0 v1 => rw_none hm (by omega) v0 v1)]
theorem sp_last {m : Nat} (hm : m < 1024) {s : Int} : fiZ 10 (fun v => rwB m s v && !bt m (v + 1)) = laZ 10 (fun v => rwB m s v) := by
  by_cases hs : 0 ≤ s ∧ s < 6
  · have := (sp_tab m hm s.toNat (by omega)).2
    rw [Int.toNat_of_nonneg hs.1] at this
    exact this
  · rw [fiZ_none (fun v v0 v1 => by rw [rw_none hm (by omega) v0 v1]; rfl)]
    rcases laZ_spec 10 (fun v => rwB m s v) with ⟨e, _⟩ | ⟨e1, e2, e3, _⟩
    · exact e.symm
    · rw [rw_none hm (by omega) e1 e2] at e3
      cases e3
theorem nu_succ {m : Nat} {v : Int} (h : 0 ≤ v) : nuZ m (v + 1) = nuZ m v + b01 (stB m v) := by
  unfold nuZ
  rw [sumZ_succ h]
  omega
theorem nu_rg {m : Nat} {v : Int} (h : 0 ≤ v) (h1 : v ≤ 32) : -1 ≤ nuZ m v ∧ nuZ m v ≤ 31 := by
  have := sumZ_nonneg (n := v) (c := 1) (f := fun i => b01 (stB m i)) h (fun _ _ _ => b01_rg _)
  unfold nuZ
  omega
theorem X5_runAt_ok {m : Nat} (hm : m < 1024) {s : Int} (s0 : -2147483648 ≤ s) (s1 : s < 2147483648) : m_X5_runAt (J m) (J s) h = some (J (setN 10 (fun v => rwB m s v) : Nat)) := by
  unfold m_X5_runAt l_X5_runAt_7
  have e0 : nuZ m 0 = -1 := rfl
  refine loop_int (fun i => (J (setN (min i 10).toNat (fun v => rwB m s v) : Nat), J (nuZ m i), J i)) 32 (by omega) (by omega) (by rw [e0]; rfl) (fun k_ i hi hi2 => ?_) (fun k_ => ?_)
  · have b1_ := X5_bit_ok (h := h) (v := i) hm (by omega) (by omega)
    have b2_ := X5_bit_ok (h := h) (v := i - 1) hm (by omega) (by omega)
    have hn := nu_rg (m := m) hi (by omega)
    rw [nu_succ hi]
    by_cases h10 : i < 10
    · rw [show (min i 10).toNat = i.toNat by omega, show (min (i + 1) 10).toNat = (i + 1).toNat by omega]
      have es := set_or (f := fun v => rwB m s v) hi h10
      rw [← es]
      dsimp only
      have er : rwB m s i = (bt m i && decide (nuZ m i + b01 (stB m i) = s)) := by unfold rwB; rw [nu_succ hi]
      rw [er]
      unfold stB
      cases hb : bt m i
      · rw [hb] at b1_
        rw [Bool.false_and, Bool.false_and, cond_false, show b01 false = 0 from rfl, Int.add_zero]
        simp (disch := omega) only [b_X5_runAt_7, j_X5_runAt_53, b1_, lm8, lm2, lm1, l0, l1, l2, l3, l4, l5, l6, l7, l8, l9, l10, l11, l12, l13, l14, l15, l16, l17, l18, l19, l20, l21, l22, l23, l24, l25, l27, l31, l32, l40, l46, l48, l50, l57, l59, l63, l86, l96, l97, l100, l110, l114, l122, l127, l200, l255, l300, l319, l320, l340, l441, l456, l580, l600, l800, l886, l1206, l1526, J_add, J_sub, J_mul, J_neg, J_lt, J_le, J_eq, jT, jF, iT, iF, eT, eF, aT, aF, ite_true, ite_false, ite_not, bs, b1N, cond_false]
        rfl
      · rw [hb] at b1_
        rw [Bool.true_and, Bool.true_and]
        have e1 : (1 : Int) - b01 (bt m (i - 1)) = b01 (!bt m (i - 1)) := by cases bt m (i - 1) <;> rfl
        have hr := b01_rg (!bt m (i - 1))
        rw [show b01 true = 1 from rfl] at b1_
        by_cases hs : nuZ m i + b01 (!bt m (i - 1)) = s
        · rw [decide_eq_true hs, cond_true]
          simp (disch := omega) only [b_X5_runAt_7, j_X5_runAt_53, j_X5_runAt_51, b1_, b2_, lm8, lm2, lm1, l0, l1, l2, l3, l4, l5, l6, l7, l8, l9, l10, l11, l12, l13, l14, l15, l16, l17, l18, l19, l20, l21, l22, l23, l24, l25, l27, l31, l32, l40, l46, l48, l50, l57, l59, l63, l86, l96, l97, l100, l110, l114, l122, l127, l200, l255, l300, l319, l320, l340, l441, l456, l580, l600, l800, l886, l1206, l1526, J_add, J_sub, J_mul, J_neg, J_lt, J_le, J_eq, jT, jF, iT, iF, eT, eF, aT, aF, ite_true, ite_false, ite_not, bs, e1]
        · rw [decide_eq_false hs, cond_false]
          simp (disch := omega) only [b_X5_runAt_7, j_X5_runAt_53, j_X5_runAt_51, b1_, b2_, lm8, lm2, lm1, l0, l1, l2, l3, l4, l5, l6, l7, l8, l9, l10, l11, l12, l13, l14, l15, l16, l17, l18, l19, l20, l21, l22, l23, l24, l25, l27, l31, l32, l40, l46, l48, l50, l57, l59, l63, l86, l96, l97, l100, l110, l114, l122, l127, l200, l255, l300, l319, l320, l340, l441, l456, l580, l600, l800, l886, l1206, l1526, J_add, J_sub, J_mul, J_neg, J_lt, J_le, J_eq, jT, jF, iT, iF, eT, eF, aT, aF, ite_true, ite_false, ite_not, bs, e1, J_or0]
    · rw [show (min i 10).toNat = 10 by omega, show (min (i + 1) 10).toNat = 10 by omega]
      have hb : bt m i = false := bt_high hm (by omega)
      unfold stB
      rw [hb] at b1_ ⊢
      rw [Bool.false_and, show b01 false = 0 from rfl, Int.add_zero]
      simp (disch := omega) only [b_X5_runAt_7, j_X5_runAt_53, b1_, lm8, lm2, lm1, l0, l1, l2, l3, l4, l5, l6, l7, l8, l9, l10, l11, l12, l13, l14, l15, l16, l17, l18, l19, l20, l21, l22, l23, l24, l25, l27, l31, l32, l40, l46, l48, l50, l57, l59, l63, l86, l96, l97, l100, l110, l114, l122, l127, l200, l255, l300, l319, l320, l340, l441, l456, l580, l600, l800, l886, l1206, l1526, J_add, J_sub, J_mul, J_neg, J_lt, J_le, J_eq, jT, jF, iT, iF, eT, eF, aT, aF, ite_true, ite_false, ite_not, bs, b1N, cond_false]
      rfl
  · show b_X5_runAt_7 (J m) (J s) h _ (J (setN (min 32 10 : Int).toNat (fun v => rwB m s v) : Nat)) _ (J 32) = _
    simp (disch := omega) only [b_X5_runAt_7, lm8, lm2, lm1, l0, l1, l2, l3, l4, l5, l6, l7, l8, l9, l10, l11, l12, l13, l14, l15, l16, l17, l18, l19, l20, l21, l22, l23, l24, l25, l27, l31, l32, l40, l46, l48, l50, l57, l59, l63, l86, l96, l97, l100, l110, l114, l122, l127, l200, l255, l300, l319, l320, l340, l441, l456, l580, l600, l800, l886, l1206, l1526, J_add, J_sub, J_mul, J_neg, J_lt, J_le, J_eq, jT, jF, iT, iF, eT, eF, aT, aF, ite_true, ite_false, ite_not, bs]
    rfl
theorem bt_setN {n : Nat} {f : Int → Bool} {v : Int} (h0 : 0 ≤ v) (h1 : v < n) : bt (setN n f) v = f v := by
  unfold bt
  rw [setN_bit, decide_eq_true h0, Bool.true_and, decide_eq_true (by omega), Bool.true_and, Int.toNat_of_nonneg h0]
theorem fi_bits (m : Nat) : fiN 10 (fun v => m.testBit v) = fiZ 10 (bt m) := by
  have e : (fun v : Nat => m.testBit v) = (fun v : Nat => bt m (v : Int)) := funext (fun v => by
    unfold bt
    rw [decide_eq_true (by omega), Bool.true_and]
    rfl)
  unfold fiZ
  rw [e]
  rfl
theorem la_congr {f g : Int → Bool} (hfg : ∀ v, 0 ≤ v → v < 10 → f v = g v) : laZ 10 f = laZ 10 g := by
  rcases laZ_spec 10 f with ⟨e1, e2⟩ | ⟨e1, e2, e3, e4⟩ <;> rcases laZ_spec 10 g with ⟨f1, f2⟩ | ⟨f1, f2, f3, f4⟩
  · omega
  · rw [← hfg _ f1 f2, e2 _ f1 f2] at f3
    cases f3
  · rw [hfg _ e1 e2, f2 _ e1 e2] at e3
    cases e3
  · by_cases c1 : laZ 10 f < laZ 10 g
    · have := e4 _ c1 f2
      rw [hfg _ f1 f2, f3] at this
      cases this
    · by_cases c2 : laZ 10 g < laZ 10 f
      · have := f4 _ c2 e2
        rw [← hfg _ e1 e2, e3] at this
        cases this
      · omega
theorem run_first {m : Nat} {s : Int} : m_X5_firstBit (J (setN 10 (fun v => rwB m s v) : Nat)) h = some (J (fiZ 10 (fun v => rwB m s v))) := by
  rw [X5_firstBit_ok (setN_1024 _ (Nat.le_refl 10)), fi_bits]
  rw [fiZ_congr (n := 10) (p := bt (setN 10 (fun v => rwB m s v))) (q := fun v => rwB m s v) (fun v v0 v1 => bt_setN (n := 10) v0 v1)]
theorem run_last {m : Nat} {s : Int} : m_X5_lastBit (J (setN 10 (fun v => rwB m s v) : Nat)) h = some (J (laZ 10 (fun v => rwB m s v))) := by
  rw [X5_lastBit_ok (setN_1024 _ (Nat.le_refl 10)), la_congr (g := fun v => rwB m s v) (fun v v0 v1 => bt_setN v0 v1)]
theorem X12_spansLoop {m : Nat} (hm : m < 1024) {s : Int} (s0 : -2147483648 ≤ s) (s1 : s < 2147483648) {b : Bool} : l_X12_spans_64 (J s) (J (b01 b)) (J m) h (J (-1)) (J 0) = some (J (bif b then laZ 10 (fun v => rwB m s v) else fiZ 10 (fun v => rwB m s v)), h) := by
  rw [← sp_first hm, ← sp_last hm]
  have epick : (bif b then fiZ 10 (fun v => rwB m s v && !bt m (v + 1)) else fiZ 10 (fun v => rwB m s v && stB m v)) = fiZ 10 (fun v => rwB m s v && (bif b then !bt m (v + 1) else stB m v)) := by cases b <;> rfl
  rw [epick]
  have step : ∀ (v : Int) (k_ : Int32 → Int32 → Option (Int32 × Hp)), 0 ≤ v → v < 10 → b_X12_spans_64 (J s) (J (b01 b)) (J m) h k_ (J (nuZ m v)) (J v) = if (rwB m s v && (bif b then !bt m (v + 1) else stB m v)) = true then some (J v, h) else k_ (J (nuZ m (v + 1))) (J (v + 1)) := by
    intro v k_ v0 v1
    have b1_ := X12_has_ok (h := h) (v := v) hm v0 (by omega)
    have b3_ := X12_has_ok (h := h) (v := v + 1) hm (by omega) (by omega)
    have hn := nu_rg (m := m) v0 (by omega)
    have hst := b01_rg (stB m v)
    have e105 : ∀ (edge : Bool) (a c : Int), a + c = nuZ m (v + 1) → ((bif b then !bt m (v + 1) else stB m v) = edge ∨ bt m v = false) → j_X12_spans_155 (J s) (J (b01 b)) (J m) (J (a + c)) (J v) (J (b01 edge)) h k_ = if (rwB m s v && (bif b then !bt m (v + 1) else stB m v)) = true then some (J v, h) else k_ (J (nuZ m (v + 1))) (J (v + 1)) := by
      intro edge a c hac hed
      rw [hac]
      have hn2 := nu_rg (m := m) (v := v + 1) (by omega) (by omega)
      unfold rwB
      cases hb : bt m v
      · rw [hb] at b1_
        rw [Bool.false_and, Bool.false_and, if_neg (by decide)]
        simp (disch := omega) only [j_X12_spans_155, j_X12_spans_182, b1_, lm8, lm2, lm1, l0, l1, l2, l3, l4, l5, l6, l7, l8, l9, l10, l11, l12, l13, l14, l15, l16, l17, l18, l19, l20, l21, l22, l23, l24, l25, l27, l31, l32, l40, l46, l48, l50, l57, l59, l63, l86, l96, l97, l100, l110, l114, l122, l127, l200, l255, l300, l319, l320, l340, l441, l456, l580, l600, l800, l886, l1206, l1526, J_add, J_sub, J_mul, J_neg, J_lt, J_le, J_eq, jT, jF, iT, iF, eT, eF, aT, aF, ite_true, ite_false, ite_not, bs, bI, cond_false]
      · rw [hb] at b1_
        rcases hed with hed | hed
        · rw [hed, Bool.true_and]
          by_cases hs : nuZ m (v + 1) = s
          · rw [decide_eq_true hs, Bool.true_and]
            cases edge
            · rw [if_neg (by decide)]
              simp (disch := omega) only [j_X12_spans_155, j_X12_spans_182, b1_, lm8, lm2, lm1, l0, l1, l2, l3, l4, l5, l6, l7, l8, l9, l10, l11, l12, l13, l14, l15, l16, l17, l18, l19, l20, l21, l22, l23, l24, l25, l27, l31, l32, l40, l46, l48, l50, l57, l59, l63, l86, l96, l97, l100, l110, l114, l122, l127, l200, l255, l300, l319, l320, l340, l441, l456, l580, l600, l800, l886, l1206, l1526, J_add, J_sub, J_mul, J_neg, J_lt, J_le, J_eq, jT, jF, iT, iF, eT, eF, aT, aF, ite_true, ite_false, ite_not, bs, bI, cond_true, cond_false]
            · rw [if_pos rfl]
              simp (disch := omega) only [j_X12_spans_155, j_X12_spans_182, b1_, lm8, lm2, lm1, l0, l1, l2, l3, l4, l5, l6, l7, l8, l9, l10, l11, l12, l13, l14, l15, l16, l17, l18, l19, l20, l21, l22, l23, l24, l25, l27, l31, l32, l40, l46, l48, l50, l57, l59, l63, l86, l96, l97, l100, l110, l114, l122, l127, l200, l255, l300, l319, l320, l340, l441, l456, l580, l600, l800, l886, l1206, l1526, J_add, J_sub, J_mul, J_neg, J_lt, J_le, J_eq, jT, jF, iT, iF, eT, eF, aT, aF, ite_true, ite_false, ite_not, bs, bI, cond_true]
          · rw [decide_eq_false hs, Bool.false_and, if_neg (by decide)]
            simp (disch := omega) only [j_X12_spans_155, j_X12_spans_182, b1_, lm8, lm2, lm1, l0, l1, l2, l3, l4, l5, l6, l7, l8, l9, l10, l11, l12, l13, l14, l15, l16, l17, l18, l19, l20, l21, l22, l23, l24, l25, l27, l31, l32, l40, l46, l48, l50, l57, l59, l63, l86, l96, l97, l100, l110, l114, l122, l127, l200, l255, l300, l319, l320, l340, l441, l456, l580, l600, l800, l886, l1206, l1526, J_add, J_sub, J_mul, J_neg, J_lt, J_le, J_eq, jT, jF, iT, iF, eT, eF, aT, aF, ite_true, ite_false, ite_not, bs, bI, cond_true]
        · rw [hed] at hb
          cases hb
    have hns := nu_succ (m := m) v0
    by_cases hv0 : v = 0
    · have hbm : bt m (v - 1) = false := by rw [hv0]; rfl
      have hstv : stB m v = bt m v := by unfold stB; rw [hbm, Bool.not_false, Bool.and_true]
      cases hb : bt m v
      · have hb1 := b1_
        rw [hb] at hb1
        rw [hstv, hb] at hns
        cases hbb : b
        · have e := e105 true (nuZ m v) 0 (by rw [hns]; rfl) (Or.inr hb)
          rw [hbb] at e
          simp (disch := omega) only [b_X12_spans_64, j_X12_spans_105, hb1, lm8, lm2, lm1, l0, l1, l2, l3, l4, l5, l6, l7, l8, l9, l10, l11, l12, l13, l14, l15, l16, l17, l18, l19, l20, l21, l22, l23, l24, l25, l27, l31, l32, l40, l46, l48, l50, l57, l59, l63, l86, l96, l97, l100, l110, l114, l122, l127, l200, l255, l300, l319, l320, l340, l441, l456, l580, l600, l800, l886, l1206, l1526, J_add, J_sub, J_mul, J_neg, J_lt, J_le, J_eq, jT, jF, iT, iF, eT, eF, aT, aF, ite_true, ite_false, ite_not, bs, bI, cond_false]
          exact e
        · have e := e105 (!bt m (v + 1)) (nuZ m v) 0 (by rw [hns]; rfl) (Or.inr hb)
          rw [hbb] at e
          simp (disch := omega) only [b_X12_spans_64, j_X12_spans_105, hb1, b3_, lm8, lm2, lm1, l0, l1, l2, l3, l4, l5, l6, l7, l8, l9, l10, l11, l12, l13, l14, l15, l16, l17, l18, l19, l20, l21, l22, l23, l24, l25, l27, l31, l32, l40, l46, l48, l50, l57, l59, l63, l86, l96, l97, l100, l110, l114, l122, l127, l200, l255, l300, l319, l320, l340, l441, l456, l580, l600, l800, l886, l1206, l1526, J_add, J_sub, J_mul, J_neg, J_lt, J_le, J_eq, jT, jF, iT, iF, eT, eF, aT, aF, ite_true, ite_false, ite_not, bs, bI, bN, bJn, cond_false, cond_true]
          exact e
      · have hb1 := b1_
        rw [hb] at hb1
        rw [hstv, hb] at hns
        cases hbb : b
        · have e := e105 true (nuZ m v) 1 (by rw [hns]; rfl) (Or.inl (by rw [hbb, cond_false, hstv]; exact hb))
          rw [hbb] at e
          simp (disch := omega) only [b_X12_spans_64, j_X12_spans_105, hb1, lm8, lm2, lm1, l0, l1, l2, l3, l4, l5, l6, l7, l8, l9, l10, l11, l12, l13, l14, l15, l16, l17, l18, l19, l20, l21, l22, l23, l24, l25, l27, l31, l32, l40, l46, l48, l50, l57, l59, l63, l86, l96, l97, l100, l110, l114, l122, l127, l200, l255, l300, l319, l320, l340, l441, l456, l580, l600, l800, l886, l1206, l1526, J_add, J_sub, J_mul, J_neg, J_lt, J_le, J_eq, jT, jF, iT, iF, eT, eF, aT, aF, ite_true, ite_false, ite_not, bs, bI, cond_true, cond_false]
          exact e
        · have e := e105 (!bt m (v + 1)) (nuZ m v) 1 (by rw [hns]; rfl) (Or.inl (by rw [hbb]; rfl))
          rw [hbb] at e
          simp (disch := omega) only [b_X12_spans_64, j_X12_spans_105, hb1, b3_, lm8, lm2, lm1, l0, l1, l2, l3, l4, l5, l6, l7, l8, l9, l10, l11, l12, l13, l14, l15, l16, l17, l18, l19, l20, l21, l22, l23, l24, l25, l27, l31, l32, l40, l46, l48, l50, l57, l59, l63, l86, l96, l97, l100, l110, l114, l122, l127, l200, l255, l300, l319, l320, l340, l441, l456, l580, l600, l800, l886, l1206, l1526, J_add, J_sub, J_mul, J_neg, J_lt, J_le, J_eq, jT, jF, iT, iF, eT, eF, aT, aF, ite_true, ite_false, ite_not, bs, bI, bN, bJn, cond_true]
          exact e
    · have b2_ := X12_has_ok (h := h) (v := v - 1) hm (by omega) (by omega)
      cases hb : bt m v
      · have hb1 := b1_
        rw [hb] at hb1
        have hstv : stB m v = false := by unfold stB; rw [hb]; rfl
        rw [hstv] at hns
        cases hbb : b
        · have e := e105 (!bt m (v - 1)) (nuZ m v) 0 (by rw [hns]; rfl) (Or.inr hb)
          rw [hbb] at e
          simp (disch := omega) only [b_X12_spans_64, j_X12_spans_105, hb1, b2_, lm8, lm2, lm1, l0, l1, l2, l3, l4, l5, l6, l7, l8, l9, l10, l11, l12, l13, l14, l15, l16, l17, l18, l19, l20, l21, l22, l23, l24, l25, l27, l31, l32, l40, l46, l48, l50, l57, l59, l63, l86, l96, l97, l100, l110, l114, l122, l127, l200, l255, l300, l319, l320, l340, l441, l456, l580, l600, l800, l886, l1206, l1526, J_add, J_sub, J_mul, J_neg, J_lt, J_le, J_eq, jT, jF, iT, iF, eT, eF, aT, aF, ite_true, ite_false, ite_not, bs, bI, bN, bJn, cond_false]
          exact e
        · have e := e105 (!bt m (v + 1)) (nuZ m v) 0 (by rw [hns]; rfl) (Or.inr hb)
          rw [hbb] at e
          simp (disch := omega) only [b_X12_spans_64, j_X12_spans_105, hb1, b3_, lm8, lm2, lm1, l0, l1, l2, l3, l4, l5, l6, l7, l8, l9, l10, l11, l12, l13, l14, l15, l16, l17, l18, l19, l20, l21, l22, l23, l24, l25, l27, l31, l32, l40, l46, l48, l50, l57, l59, l63, l86, l96, l97, l100, l110, l114, l122, l127, l200, l255, l300, l319, l320, l340, l441, l456, l580, l600, l800, l886, l1206, l1526, J_add, J_sub, J_mul, J_neg, J_lt, J_le, J_eq, jT, jF, iT, iF, eT, eF, aT, aF, ite_true, ite_false, ite_not, bs, bI, bN, bJn, cond_false, cond_true]
          exact e
      · have hb1 := b1_
        rw [hb] at hb1
        have hstv : stB m v = !bt m (v - 1) := by unfold stB; rw [hb, Bool.true_and]
        rw [hstv] at hns
        cases hbb : b
        · have e := e105 (!bt m (v - 1)) (nuZ m v) (b01 (!bt m (v - 1))) (by rw [hns]) (Or.inl (by rw [hbb, cond_false, hstv]))
          rw [hbb] at e
          simp (disch := omega) only [b_X12_spans_64, j_X12_spans_105, hb1, b2_, lm8, lm2, lm1, l0, l1, l2, l3, l4, l5, l6, l7, l8, l9, l10, l11, l12, l13, l14, l15, l16, l17, l18, l19, l20, l21, l22, l23, l24, l25, l27, l31, l32, l40, l46, l48, l50, l57, l59, l63, l86, l96, l97, l100, l110, l114, l122, l127, l200, l255, l300, l319, l320, l340, l441, l456, l580, l600, l800, l886, l1206, l1526, J_add, J_sub, J_mul, J_neg, J_lt, J_le, J_eq, jT, jF, iT, iF, eT, eF, aT, aF, ite_true, ite_false, ite_not, bs, bI, bN, bJn, cond_true, cond_false]
          exact e
        · have e := e105 (!bt m (v + 1)) (nuZ m v) (b01 (!bt m (v - 1))) (by rw [hns]) (Or.inl (by rw [hbb]; rfl))
          rw [hbb] at e
          simp (disch := omega) only [b_X12_spans_64, j_X12_spans_105, hb1, b2_, b3_, lm8, lm2, lm1, l0, l1, l2, l3, l4, l5, l6, l7, l8, l9, l10, l11, l12, l13, l14, l15, l16, l17, l18, l19, l20, l21, l22, l23, l24, l25, l27, l31, l32, l40, l46, l48, l50, l57, l59, l63, l86, l96, l97, l100, l110, l114, l122, l127, l200, l255, l300, l319, l320, l340, l441, l456, l580, l600, l800, l886, l1206, l1526, J_add, J_sub, J_mul, J_neg, J_lt, J_le, J_eq, jT, jF, iT, iF, eT, eF, aT, aF, ite_true, ite_false, ite_not, bs, bI, bN, bJn, cond_true]
          exact e
  unfold l_X12_spans_64
  refine loop_find (fun v => (J (nuZ m v), J v)) 10 (fun v => rwB m s v && (bif b then !bt m (v + 1) else stB m v)) (fun v => some (J v, h)) (by omega) (by omega) rfl (fun k_ v v0 v1 hp => ?_) (fun k_ v v0 v1 hp => ?_) (fun k_ => ?_)
  · refine (step v _ v0 v1).trans ?_
    rw [if_neg (by rw [hp]; decide)]
  · refine (step v _ v0 v1).trans ?_
    rw [if_pos hp]
  · show b_X12_spans_64 (J s) (J (b01 b)) (J m) h _ (J (nuZ m 10)) (J 10) = _
    simp (disch := omega) only [b_X12_spans_64, lm8, lm2, lm1, l0, l1, l2, l3, l4, l5, l6, l7, l8, l9, l10, l11, l12, l13, l14, l15, l16, l17, l18, l19, l20, l21, l22, l23, l24, l25, l27, l31, l32, l40, l46, l48, l50, l57, l59, l63, l86, l96, l97, l100, l110, l114, l122, l127, l200, l255, l300, l319, l320, l340, l441, l456, l580, l600, l800, l886, l1206, l1526, J_add, J_sub, J_mul, J_neg, J_lt, J_le, J_eq, jT, jF, iT, iF, eT, eF, aT, aF, ite_true, ite_false, ite_not, bs]
end FR2
