/-! PURE PART: in which versions questions hold, the reference -/
def AHe (o b k : Nat) : Prop := b = o + 14
def RHe (h : Hp) (o : Nat) (T Q : Int → Int) (n : Int) : Prop := ∀ k d, 0 ≤ k → k < n → 0 ≤ d → d < 4 → hE h (o + 14) (4 * k + d) = HE T Q k d
section HR2
variable {h : Hp} {o : Nat} {T Q : Int → Int}
theorem RQ.frame {A : Nat → Nat → Prop} {h' : Hp} (G : RQ h o Q) (F : FR A h h') (n0 : ¬ A o 28) (n1 : ∀ k, ¬ A (o + 7) k) : RQ h' o Q := by
  obtain ⟨g1, g2, q, q0, q1, q2, q3⟩ := G
  refine ⟨by rw [F.1]; exact g1, g2, q, q0, q1, ?_, fun i i0 i1 => ?_⟩
  · rw [F.e n0, q2]
  · rw [F.e (n1 _), q3 i i0 i1]
theorem RM.frHe {h' : Hp} (H : RM h o T) (F : FR (AHe o) h h') : RM h' o T := by
  refine H.frame F ?_ (fun k => ?_) <;> · unfold AHe; omega
theorem RQ.frHe {h' : Hp} (G : RQ h o Q) (F : FR (AHe o) h h') : RQ h' o Q := by
  refine G.frame F ?_ (fun k => ?_) <;> · unfold AHe; omega
theorem HE_none (A : AW T) (W : QW Q) {k d : Int} (k0 : 0 ≤ k) (k1 : k < Q 0) (d0 : T 0 ≤ d) (d1 : d < 4) : HE T Q k d = 0 := by
  rw [HE_eq W k0 k1, A.2.2.1 d d0 d1]
  rfl
theorem RM.holdsBy (H : RM h o T) (G : RQ h o Q) {k d v : Int} (k0 : 0 ≤ k) (k1 : k < Q 0) (hv : vvT T d v) (C : RHe h o T Q k) : m_X12_holdsBy o (J k) (J d) (J v) h = some (J (b01 (hoB T Q (HE T Q) k d v))) := by
  have hb := H.wf.vb hv
  have hq := G.2.1.2 k k0 k1
  have hsz := G.2.1.1
  have hna := G.2.1.na k0 k1
  have hnb := G.2.1.nb k0 k1
  have ena := G.na (k := k) k0 (by omega)
  have enb := G.nb (k := k) k0 (by omega)
  have eki := G.kind (k := k) k0 (by omega)
  by_cases c0 : qkT Q k = 0
  · have eh : hoB T Q (HE T Q) k d v = decide (0 < beT T Q k d v) := by unfold hoB; rw [if_pos c0]
    have ei : (if beT T Q k d v ≤ 0 then J 0 else J 1) = J (b01 (hoB T Q (HE T Q) k d v)) := by
      rw [eh, ib01]
      congr 2
      by_cases z : beT T Q k d v ≤ 0
      · rw [decide_eq_true z, decide_eq_false (by omega)]
        rfl
      · rw [decide_eq_false z, decide_eq_true (by omega)]
        rfl
    have hbr := beT_rg H.wf hv (Q := Q) (k := k)
    unfold m_X12_holdsBy
    rw [rc_ok H.tag, rc_ok H.tag, rc_ok H.tag]
    rw [show m_X12_ofAsking o (J k) (1 : Int32) h = _ from ena, bs, show m_X12_ofAsking o (J k) (2 : Int32) h = _ from enb, bs, show m_X12_ofAsking o (J k) (0 : Int32) h = _ from eki, bs, c0, if_pos (by decide)]
    simp (disch := omega) only [j_X12_holdsBy_79, rc_ok H.tag, H.timesOf G k0 k1 c0 hv, ei, lm8, lm2, lm1, l0, l1, l2, l3, l4, l5, l6, l7, l8, l9, l10, l11, l12, l13, l14, l15, l16, l17, l18, l19, l20, l21, l22, l23, l24, l25, l27, l31, l32, l40, l46, l48, l50, l57, l59, l63, l86, l96, l97, l100, l110, l114, l122, l127, l200, l255, l300, l319, l320, l340, l441, l456, l580, l600, l800, l886, l1206, l1526, J_add, J_sub, J_mul, J_neg, J_lt, J_le, J_eq, jT, jF, iT, iF, eT, eF, aT, aF, ite_true, ite_false, ite_not, bs, zbB]
  · by_cases c1 : qkT Q k = 1
    · have eh : hoB T Q (HE T Q) k d v = neB T Q k d v := by unfold hoB; rw [if_neg c0, if_pos c1]
      have e9 := H.areNear G k0 k1 c1 hv
      rw [← eh] at e9
      unfold m_X12_holdsBy
      rw [rc_ok H.tag, rc_ok H.tag, rc_ok H.tag]
      rw [show m_X12_ofAsking o (J k) (1 : Int32) h = _ from ena, bs, show m_X12_ofAsking o (J k) (2 : Int32) h = _ from enb, bs, show m_X12_ofAsking o (J k) (0 : Int32) h = _ from eki, bs, c1, if_neg (by decide), if_pos (by decide)]
      simp (disch := omega) only [rc_ok H.tag, e9, lm8, lm2, lm1, l0, l1, l2, l3, l4, l5, l6, l7, l8, l9, l10, l11, l12, l13, l14, l15, l16, l17, l18, l19, l20, l21, l22, l23, l24, l25, l27, l31, l32, l40, l46, l48, l50, l57, l59, l63, l86, l96, l97, l100, l110, l114, l122, l127, l200, l255, l300, l319, l320, l340, l441, l456, l580, l600, l800, l886, l1206, l1526, J_add, J_sub, J_mul, J_neg, J_lt, J_le, J_eq, jT, jF, iT, iF, eT, eF, aT, aF, ite_true, ite_false, ite_not, bs, zbB]
    · by_cases c2 : qkT Q k = 2
      · have eh : hoB T Q (HE T Q) k d v = decide (qaT Q k ≤ tiT T d v (qwT Q k 0)) := by unfold hoB; rw [if_neg c0, if_neg c1, if_pos c2]
        have hc : qcT Q k = 1 := by unfold qcT; rw [if_neg c0, if_neg c1, if_pos c2]
        have w0 := hq.2.2.2.2.2.2 0 (by omega) (by omega)
        have w1 := w0.1
        have w2 := w0.2.1
        have ew := G.word (k := k) (i := 0) k0 (by omega) (by omega) (by omega)
        rw [show (3 : Int) + 0 = 3 from rfl] at ew
        have et := H.timesIn hv (w := qwT Q k 0) (by omega) (by omega)
        have htr := tiT_rg H.wf hv (w := qwT Q k 0)
        have ei : (if tiT T d v (qwT Q k 0) < qaT Q k then J 0 else J 1) = J (b01 (hoB T Q (HE T Q) k d v)) := by
          rw [eh, ib01]
          congr 2
          by_cases z : tiT T d v (qwT Q k 0) < qaT Q k
          · rw [decide_eq_true z, decide_eq_false (by omega)]
            rfl
          · rw [decide_eq_false z, decide_eq_true (by omega)]
            rfl
        unfold m_X12_holdsBy
        rw [rc_ok H.tag, rc_ok H.tag, rc_ok H.tag]
        rw [show m_X12_ofAsking o (J k) (1 : Int32) h = _ from ena, bs, show m_X12_ofAsking o (J k) (2 : Int32) h = _ from enb, bs, show m_X12_ofAsking o (J k) (0 : Int32) h = _ from eki, bs, c2, if_neg (by decide), if_neg (by decide), if_pos (by decide)]
        simp (disch := omega) only [j_X12_holdsBy_110, rc_ok H.tag, ew, et, ei, lm8, lm2, lm1, l0, l1, l2, l3, l4, l5, l6, l7, l8, l9, l10, l11, l12, l13, l14, l15, l16, l17, l18, l19, l20, l21, l22, l23, l24, l25, l27, l31, l32, l40, l46, l48, l50, l57, l59, l63, l86, l96, l97, l100, l110, l114, l122, l127, l200, l255, l300, l319, l320, l340, l441, l456, l580, l600, l800, l886, l1206, l1526, J_add, J_sub, J_mul, J_neg, J_lt, J_le, J_eq, jT, jF, iT, iF, eT, eF, aT, aF, ite_true, ite_false, ite_not, bs, zbB]
      · have ha := hq.2.2.2.1 (by omega)
        have e1 : alI h (o + 14) (J (4 * qaT Q k + d)) = some (J (HE T Q (qaT Q k) d : Nat)) := by
          rw [alI_ok H.1.a29 (by omega) (by omega) (by omega), C _ _ ha.1 ha.2 hb.1 (by omega)]
        have hla := HE_lt H.wf G.2.1 ha.1 (show qaT Q k < Q 0 by omega) hb.1 (by omega)
        have eha := X12_has_ok (h := h) (v := v) hla hb.2.2.1 (by omega)
        by_cases c3 : qkT Q k = 3
        · have eh : hoB T Q (HE T Q) k d v = !bt (HE T Q (qaT Q k) d) v := by unfold hoB; rw [if_neg c0, if_neg c1, if_neg c2, if_pos c3]
          rw [eh]
          unfold m_X12_holdsBy
          rw [rc_ok H.tag, rc_ok H.tag, rc_ok H.tag]
          rw [show m_X12_ofAsking o (J k) (1 : Int32) h = _ from ena, bs, show m_X12_ofAsking o (J k) (2 : Int32) h = _ from enb, bs, show m_X12_ofAsking o (J k) (0 : Int32) h = _ from eki, bs, c3, if_neg (by decide), if_neg (by decide), if_neg (by decide), if_pos (by decide)]
          simp (disch := omega) only [j_X12_holdsBy_134, rc_ok H.tag, H.1.r29, e1, eha, lm8, lm2, lm1, l0, l1, l2, l3, l4, l5, l6, l7, l8, l9, l10, l11, l12, l13, l14, l15, l16, l17, l18, l19, l20, l21, l22, l23, l24, l25, l27, l31, l32, l40, l46, l48, l50, l57, l59, l63, l86, l96, l97, l100, l110, l114, l122, l127, l200, l255, l300, l319, l320, l340, l441, l456, l580, l600, l800, l886, l1206, l1526, J_add, J_sub, J_mul, J_neg, J_lt, J_le, J_eq, jT, jF, iT, iF, eT, eF, aT, aF, ite_true, ite_false, ite_not, bs, bI, bN, bJ, bJn, zbB]
        · by_cases c4 : qkT Q k = 4
          · have eh : hoB T Q (HE T Q) k d v = anyZ (v + 1) (fun u => bt (HE T Q (qaT Q k) d) u) := by unfold hoB; rw [if_neg c0, if_neg c1, if_neg c2, if_neg c3, if_pos c4]
            have et := old_tab v.toNat (by omega) _ hla
            rw [Int.toNat_of_nonneg hb.2.2.1] at et
            have el := ever_low v.toNat (by omega) _ hla
            rw [Int.toNat_of_nonneg hb.2.2.1] at el
            have et2 : J (HE T Q (qaT Q k) d : Nat) &&& (ishlF (2 : Int32) (J v) - (1 : Int32)) = J ((HE T Q (qaT Q k) d % 2 ^ (v.toNat + 1) : Nat)) := et
            have hm : HE T Q (qaT Q k) d % 2 ^ (v.toNat + 1) < 1024 := Nat.lt_of_le_of_lt (Nat.mod_le _ _) hla
            generalize HE T Q (qaT Q k) d % 2 ^ (v.toNat + 1) = m at *
            have ei : (if J (m : Int) = (0 : Int32) then (0 : Int32) else (1 : Int32)) = J (b01 (hoB T Q (HE T Q) k d v)) := by
              by_cases hm0 : m = 0
              · subst hm0
                rw [decide_eq_true rfl] at el
                rw [if_pos (by decide), eh]
                cases hz : anyZ (v + 1) (fun u => bt (HE T Q (qaT Q k) d) u)
                · rfl
                · rw [hz] at el
                  cases el
              · rw [decide_eq_false hm0] at el
                rw [if_neg (fun q => hm0 (by have := J_inj (a := (m : Int)) (b := 0) (by omega) (by omega) (by omega) (by omega) q; omega)), eh]
                cases hz : anyZ (v + 1) (fun u => bt (HE T Q (qaT Q k) d) u)
                · rw [hz] at el
                  cases el
                · rfl
            have hd2 : ((4 : Int32) * J (qaT Q k)) + J d = J (4 * qaT Q k + d) := by rw [l4, J_mul, J_add]
            unfold m_X12_holdsBy
            rw [rc_ok H.tag, rc_ok H.tag, rc_ok H.tag]
            rw [show m_X12_ofAsking o (J k) (1 : Int32) h = _ from ena, bs, show m_X12_ofAsking o (J k) (2 : Int32) h = _ from enb, bs, show m_X12_ofAsking o (J k) (0 : Int32) h = _ from eki, bs, c4, if_neg (by decide), if_neg (by decide), if_neg (by decide), if_neg (by decide), if_pos (by decide), H.1.r29, bs, hd2, e1, bs, et2]
            rw [ei]
            unfold j_X12_holdsBy_160
            rw [zbB, bs]
          · by_cases c5 : qkT Q k = 5
            · have eh : hoB T Q (HE T Q) k d v = (bt (HE T Q (qaT Q k) d) v && !bt (HE T Q (qaT Q k) d) (v - 1)) := by unfold hoB; rw [if_neg c0, if_neg c1, if_neg c2, if_neg c3, if_neg c4, if_pos c5]
              rw [eh]
              by_cases hv0 : v = 0
              · have hbn : bt (HE T Q (qaT Q k) d) (v - 1) = false := by rw [hv0]; rfl
                rw [hbn, Bool.not_false, Bool.and_true]
                cases hbv : bt (HE T Q (qaT Q k) d) v
                · rw [hbv] at eha
                  unfold m_X12_holdsBy
                  rw [rc_ok H.tag, rc_ok H.tag, rc_ok H.tag]
                  rw [show m_X12_ofAsking o (J k) (1 : Int32) h = _ from ena, bs, show m_X12_ofAsking o (J k) (2 : Int32) h = _ from enb, bs, show m_X12_ofAsking o (J k) (0 : Int32) h = _ from eki, bs, c5, if_neg (by decide), if_neg (by decide), if_neg (by decide), if_neg (by decide), if_neg (by decide), if_pos (by decide)]
                  simp (disch := omega) only [j_X12_holdsBy_208, rc_ok H.tag, H.1.r29, e1, eha, lm8, lm2, lm1, l0, l1, l2, l3, l4, l5, l6, l7, l8, l9, l10, l11, l12, l13, l14, l15, l16, l17, l18, l19, l20, l21, l22, l23, l24, l25, l27, l31, l32, l40, l46, l48, l50, l57, l59, l63, l86, l96, l97, l100, l110, l114, l122, l127, l200, l255, l300, l319, l320, l340, l441, l456, l580, l600, l800, l886, l1206, l1526, J_add, J_sub, J_mul, J_neg, J_lt, J_le, J_eq, jT, jF, iT, iF, eT, eF, aT, aF, ite_true, ite_false, ite_not, bs, bI, cond_false, zb0]
                  rfl
                · rw [hbv] at eha
                  unfold m_X12_holdsBy
                  rw [rc_ok H.tag, rc_ok H.tag, rc_ok H.tag]
                  rw [show m_X12_ofAsking o (J k) (1 : Int32) h = _ from ena, bs, show m_X12_ofAsking o (J k) (2 : Int32) h = _ from enb, bs, show m_X12_ofAsking o (J k) (0 : Int32) h = _ from eki, bs, c5, if_neg (by decide), if_neg (by decide), if_neg (by decide), if_neg (by decide), if_neg (by decide), if_pos (by decide)]
                  simp (disch := omega) only [j_X12_holdsBy_208, rc_ok H.tag, H.1.r29, e1, eha, lm8, lm2, lm1, l0, l1, l2, l3, l4, l5, l6, l7, l8, l9, l10, l11, l12, l13, l14, l15, l16, l17, l18, l19, l20, l21, l22, l23, l24, l25, l27, l31, l32, l40, l46, l48, l50, l57, l59, l63, l86, l96, l97, l100, l110, l114, l122, l127, l200, l255, l300, l319, l320, l340, l441, l456, l580, l600, l800, l886, l1206, l1526, J_add, J_sub, J_mul, J_neg, J_lt, J_le, J_eq, jT, jF, iT, iF, eT, eF, aT, aF, ite_true, ite_false, ite_not, bs, bI, cond_true, zb1]
                  rfl
              · have eha2 := X12_has_ok (h := h) (v := v - 1) hla (by omega) (by omega)
                cases hbv : bt (HE T Q (qaT Q k) d) v
                · rw [hbv] at eha
                  rw [Bool.false_and]
                  unfold m_X12_holdsBy
                  rw [rc_ok H.tag, rc_ok H.tag, rc_ok H.tag]
                  rw [show m_X12_ofAsking o (J k) (1 : Int32) h = _ from ena, bs, show m_X12_ofAsking o (J k) (2 : Int32) h = _ from enb, bs, show m_X12_ofAsking o (J k) (0 : Int32) h = _ from eki, bs, c5, if_neg (by decide), if_neg (by decide), if_neg (by decide), if_neg (by decide), if_neg (by decide), if_pos (by decide)]
                  simp (disch := omega) only [j_X12_holdsBy_208, rc_ok H.tag, H.1.r29, e1, eha, lm8, lm2, lm1, l0, l1, l2, l3, l4, l5, l6, l7, l8, l9, l10, l11, l12, l13, l14, l15, l16, l17, l18, l19, l20, l21, l22, l23, l24, l25, l27, l31, l32, l40, l46, l48, l50, l57, l59, l63, l86, l96, l97, l100, l110, l114, l122, l127, l200, l255, l300, l319, l320, l340, l441, l456, l580, l600, l800, l886, l1206, l1526, J_add, J_sub, J_mul, J_neg, J_lt, J_le, J_eq, jT, jF, iT, iF, eT, eF, aT, aF, ite_true, ite_false, ite_not, bs, bI, cond_false, zb0]
                  rfl
                · rw [hbv] at eha
                  rw [Bool.true_and]
                  unfold m_X12_holdsBy
                  rw [rc_ok H.tag, rc_ok H.tag, rc_ok H.tag]
                  rw [show m_X12_ofAsking o (J k) (1 : Int32) h = _ from ena, bs, show m_X12_ofAsking o (J k) (2 : Int32) h = _ from enb, bs, show m_X12_ofAsking o (J k) (0 : Int32) h = _ from eki, bs, c5, if_neg (by decide), if_neg (by decide), if_neg (by decide), if_neg (by decide), if_neg (by decide), if_pos (by decide)]
                  simp (disch := omega) only [j_X12_holdsBy_208, rc_ok H.tag, H.1.r29, e1, eha, eha2, lm8, lm2, lm1, l0, l1, l2, l3, l4, l5, l6, l7, l8, l9, l10, l11, l12, l13, l14, l15, l16, l17, l18, l19, l20, l21, l22, l23, l24, l25, l27, l31, l32, l40, l46, l48, l50, l57, l59, l63, l86, l96, l97, l100, l110, l114, l122, l127, l200, l255, l300, l319, l320, l340, l441, l456, l580, l600, l800, l886, l1206, l1526, J_add, J_sub, J_mul, J_neg, J_lt, J_le, J_eq, jT, jF, iT, iF, eT, eF, aT, aF, ite_true, ite_false, ite_not, bs, bI, bN, bJ, bJn, cond_true, zbB]
            · have hbb := hq.2.2.2.2.2.1 (by omega)
              have e2 : alI h (o + 14) (J (4 * qbT Q k + d)) = some (J (HE T Q (qbT Q k) d : Nat)) := by
                rw [alI_ok H.1.a29 (by omega) (by omega) (by omega), C _ _ hbb.1 hbb.2 hb.1 (by omega)]
              have hlb := HE_lt H.wf G.2.1 hbb.1 (show qbT Q k < Q 0 by omega) hb.1 (by omega)
              by_cases c6 : qkT Q k = 6
              · have eh : hoB T Q (HE T Q) k d v = (bt (HE T Q (qaT Q k) d) v && bt (HE T Q (qbT Q k) d) v) := by unfold hoB; rw [if_neg c0, if_neg c1, if_neg c2, if_neg c3, if_neg c4, if_neg c5, if_pos c6]
                have ehc := X12_has_ok (h := h) (v := v) (show HE T Q (qaT Q k) d &&& HE T Q (qbT Q k) d < 1024 from Nat.lt_of_le_of_lt Nat.and_le_left hla) hb.2.2.1 (by omega)
                rw [bt_and, ← eh] at ehc
                unfold m_X12_holdsBy
                rw [rc_ok H.tag, rc_ok H.tag, rc_ok H.tag]
                rw [show m_X12_ofAsking o (J k) (1 : Int32) h = _ from ena, bs, show m_X12_ofAsking o (J k) (2 : Int32) h = _ from enb, bs, show m_X12_ofAsking o (J k) (0 : Int32) h = _ from eki, bs, c6, if_neg (by decide), if_neg (by decide), if_neg (by decide), if_neg (by decide), if_neg (by decide), if_neg (by decide), if_pos (by decide)]
                simp (disch := omega) only [rc_ok H.tag, H.1.r29, e1, e2, nx_and2, ehc, lm8, lm2, lm1, l0, l1, l2, l3, l4, l5, l6, l7, l8, l9, l10, l11, l12, l13, l14, l15, l16, l17, l18, l19, l20, l21, l22, l23, l24, l25, l27, l31, l32, l40, l46, l48, l50, l57, l59, l63, l86, l96, l97, l100, l110, l114, l122, l127, l200, l255, l300, l319, l320, l340, l441, l456, l580, l600, l800, l886, l1206, l1526, J_add, J_sub, J_mul, J_neg, J_lt, J_le, J_eq, jT, jF, iT, iF, eT, eF, aT, aF, ite_true, ite_false, ite_not, bs, zbB]
              · have c7 : qkT Q k = 7 := by omega
                have eh : hoB T Q (HE T Q) k d v = (bt (HE T Q (qaT Q k) d) v || bt (HE T Q (qbT Q k) d) v) := by unfold hoB; rw [if_neg c0, if_neg c1, if_neg c2, if_neg c3, if_neg c4, if_neg c5, if_neg c6]
                have ehc := X12_has_ok (h := h) (v := v) (show HE T Q (qaT Q k) d ||| HE T Q (qbT Q k) d < 1024 from Nat.or_lt_two_pow (n := 10) hla hlb) hb.2.2.1 (by omega)
                rw [bt_or, ← eh] at ehc
                unfold m_X12_holdsBy
                rw [rc_ok H.tag, rc_ok H.tag, rc_ok H.tag]
                rw [show m_X12_ofAsking o (J k) (1 : Int32) h = _ from ena, bs, show m_X12_ofAsking o (J k) (2 : Int32) h = _ from enb, bs, show m_X12_ofAsking o (J k) (0 : Int32) h = _ from eki, bs, c7, if_neg (by decide), if_neg (by decide), if_neg (by decide), if_neg (by decide), if_neg (by decide), if_neg (by decide), if_neg (by decide)]
                simp (disch := omega) only [rc_ok H.tag, H.1.r29, e1, e2, nx_or2, ehc, lm8, lm2, lm1, l0, l1, l2, l3, l4, l5, l6, l7, l8, l9, l10, l11, l12, l13, l14, l15, l16, l17, l18, l19, l20, l21, l22, l23, l24, l25, l27, l31, l32, l40, l46, l48, l50, l57, l59, l63, l86, l96, l97, l100, l110, l114, l122, l127, l200, l255, l300, l319, l320, l340, l441, l456, l580, l600, l800, l886, l1206, l1526, J_add, J_sub, J_mul, J_neg, J_lt, J_le, J_eq, jT, jF, iT, iF, eT, eF, aT, aF, ite_true, ite_false, ite_not, bs, zbB]
theorem RM.layLoop (H : RM h o T) (G : RQ h o Q) : ∃ h', l_X12_layHeld_20 o (J 0) h = some (J 1, h') ∧ FR (AHe o) h h' ∧ RHe h' o T Q (Q 0) := by
  have hn0 := H.wf.n0
  have hsz := G.2.1.1
  -- one set
  have inner : ∀ (k d : Int) (K : Hp → Option (Int32 × Hp)) (h1 : Hp), 0 ≤ k → k < Q 0 → 0 ≤ d → d < 4 → FR (AHe o) h h1 → RHe h1 o T Q k → hE h1 (o + 14) (4 * k + d) = 0 → ∃ h2, l_X12_layHeld_52 o (J k) (J d) K (J 0) h1 = K h2 ∧ FR (AHe o) h h2 ∧ hE h2 (o + 14) (4 * k + d) = HE T Q k d ∧ (∀ i, 0 ≤ i → i ≠ 4 * k + d → hE h2 (o + 14) i = hE h1 (o + 14) i) := by
    intro k d K h1 k0 k1 d0 d1 F S Z
    have hn := H.wf.nv d0 d1
    unfold l_X12_layHeld_52
    by_cases hd : d < T 0
    · obtain ⟨s, ⟨h2, rfl, F2, Z2, S2⟩, e⟩ := loop_ex (body := fun (k_ : Int32 × Hp → Option (Int32 × Hp)) (s : Int32 × Hp) => b_X12_layHeld_52 o (J k) (J d) K (fun v5q hq => k_ (v5q, hq)) s.1 s.2) (s := (J 0, h1)) (fun v s => ∃ h', s = (J v, h') ∧ FR (AHe o) h h' ∧ hE h' (o + 14) (4 * k + d) = (setN v.toNat (fun v => hoB T Q (HE T Q) k d v) : Nat) ∧ ∀ i, 0 ≤ i → i ≠ 4 * k + d → hE h' (o + 14) i = hE h1 (o + 14) i) (fun s => K s.2) (T (1 + d)) hn.1 (by omega) ⟨h1, rfl, F, Z, fun _ _ _ => rfl⟩ (by
          rintro K1 v s v0 v1 ⟨h', rfl, F, Z, S2⟩
          have H' := H.frHe F
          have G' := G.frHe F
          have hv : vvT T d v := ⟨d0, hd, v0, v1⟩
          have hvN : ((v.toNat : Nat) : Int) = v := Int.toNat_of_nonneg v0
          have eh := H'.holdsBy G' k0 k1 hv (fun a b a0 a1 b0 b1 => by rw [S2 _ (by omega) (by omega)]; exact S a b a0 a1 b0 b1)
          have hlt : setN v.toNat (fun v => hoB T Q (HE T Q) k d v) < 1024 := setN_1024 _ (by omega)
          have hlt2 : setN (v + 1).toNat (fun v => hoB T Q (HE T Q) k d v) < 1024 := setN_1024 _ (by omega)
          have ea : alI h' (o + 14) (J (4 * k + d)) = some (J (setN v.toNat (fun v => hoB T Q (HE T Q) k d v) : Nat)) := by
            rw [alI_ok H'.1.a29 (by omega) (by omega) (by omega), Z]
          refine ⟨(J (v + 1), wE h' (o + 14) (4 * k + d) (setN (v + 1).toNat (fun v => hoB T Q (HE T Q) k d v) : Nat)), ⟨_, rfl, F.trans (FR.wE rfl), ?_, fun i i0 i1 => ?_⟩, ?_⟩
          · rw [hE_wE (by omega) (by omega) (by omega) (by omega), if_pos ⟨rfl, rfl⟩]
          · rw [hE_wE (by omega) i0 (by omega) (by omega), if_neg (fun z => i1 z.2)]
            exact S2 i i0 i1
          · show b_X12_layHeld_52 o (J k) (J d) K (fun v5q hq => K1 (v5q, hq)) (J v) h' = _
            rw [show (v + 1).toNat = v.toNat + 1 by omega] at *
            cases hh : hoB T Q (HE T Q) k d v
            · rw [hh] at eh
              rw [setN_F (i := v.toNat) (f := fun v => hoB T Q (HE T Q) k d v) (by rw [hvN]; exact hh)]
              simp (disch := omega) only [b_X12_layHeld_52, j_X12_layHeld_104, rc_ok H'.tag, H'.isDocT, H'.versions, H'.1.r29, ea, eh, asI_ok H'.1.a29, lm8, lm2, lm1, l0, l1, l2, l3, l4, l5, l6, l7, l8, l9, l10, l11, l12, l13, l14, l15, l16, l17, l18, l19, l20, l21, l22, l23, l24, l25, l27, l31, l32, l40, l46, l48, l50, l57, l59, l63, l86, l96, l97, l100, l110, l114, l122, l127, l200, l255, l300, l319, l320, l340, l441, l456, l580, l600, l800, l886, l1206, l1526, J_add, J_sub, J_mul, J_neg, J_lt, J_le, J_eq, jT, jF, iT, iF, eT, eF, aT, aF, ite_true, ite_false, ite_not, bs, bI, cond_false, J_or0]
            · rw [hh] at eh
              have es := setN_T (i := v.toNat) (f := fun v => hoB T Q (HE T Q) k d v) (by omega) (by rw [hvN]; exact hh)
              rw [hvN] at es
              simp (disch := omega) only [b_X12_layHeld_52, j_X12_layHeld_104, rc_ok H'.tag, H'.isDocT, H'.versions, H'.1.r29, ea, eh, es, asI_ok H'.1.a29, lm8, lm2, lm1, l0, l1, l2, l3, l4, l5, l6, l7, l8, l9, l10, l11, l12, l13, l14, l15, l16, l17, l18, l19, l20, l21, l22, l23, l24, l25, l27, l31, l32, l40, l46, l48, l50, l57, l59, l63, l86, l96, l97, l100, l110, l114, l122, l127, l200, l255, l300, l319, l320, l340, l441, l456, l580, l600, l800, l886, l1206, l1526, J_add, J_sub, J_mul, J_neg, J_lt, J_le, J_eq, jT, jF, iT, iF, eT, eF, aT, aF, ite_true, ite_false, ite_not, bs, bI, cond_true]) (by
          rintro K1 s ⟨h', rfl, F, -⟩
          have H' := H.frHe F
          show b_X12_layHeld_52 o (J k) (J d) K (fun v5q hq => K1 (v5q, hq)) (J (T (1 + d))) h' = _
          simp (disch := omega) only [b_X12_layHeld_52, rc_ok H'.tag, H'.isDocT, H'.versions, lm8, lm2, lm1, l0, l1, l2, l3, l4, l5, l6, l7, l8, l9, l10, l11, l12, l13, l14, l15, l16, l17, l18, l19, l20, l21, l22, l23, l24, l25, l27, l31, l32, l40, l46, l48, l50, l57, l59, l63, l86, l96, l97, l100, l110, l114, l122, l127, l200, l255, l300, l319, l320, l340, l441, l456, l580, l600, l800, l886, l1206, l1526, J_add, J_sub, J_mul, J_neg, J_lt, J_le, J_eq, jT, jF, iT, iF, eT, eF, aT, aF, ite_true, ite_false, ite_not, bs])
      exact ⟨h2, e, F2, by rw [Z2, HE_eq G.2.1 k0 k1], S2⟩
    · refine ⟨h1, ?_, F, by rw [Z, HE_none H.wf G.2.1 k0 k1 (by omega) d1]; rfl, fun _ _ _ => rfl⟩
      have H' := H.frHe F
      refine loop_int (fun _ => (J 0, h1)) 0 (by omega) (by omega) rfl (fun k_ i hi hi2 => by omega) (fun k_ => ?_)
      show b_X12_layHeld_52 o (J k) (J d) K (fun v5q hq => k_ (v5q, hq)) (J 0) h1 = _
      have ed := H'.isDocF (d := d) (Or.inr (by omega)) (by omega) (by omega)
      simp (disch := omega) only [b_X12_layHeld_52, rc_ok H'.tag, ed, lm8, lm2, lm1, l0, l1, l2, l3, l4, l5, l6, l7, l8, l9, l10, l11, l12, l13, l14, l15, l16, l17, l18, l19, l20, l21, l22, l23, l24, l25, l27, l31, l32, l40, l46, l48, l50, l57, l59, l63, l86, l96, l97, l100, l110, l114, l122, l127, l200, l255, l300, l319, l320, l340, l441, l456, l580, l600, l800, l886, l1206, l1526, J_add, J_sub, J_mul, J_neg, J_lt, J_le, J_eq, jT, jF, iT, iF, eT, eF, aT, aF, ite_true, ite_false, ite_not, bs]
  -- all documents
  have mid : ∀ (k : Int) (K : Hp → Option (Int32 × Hp)) (h1 : Hp), 0 ≤ k → k < Q 0 → FR (AHe o) h h1 → RHe h1 o T Q k → ∃ h2, l_X12_layHeld_31 o (J k) K (J 0) h1 = K h2 ∧ FR (AHe o) h h2 ∧ RHe h2 o T Q (k + 1) := by
    intro k K h1 k0 k1 F S
    unfold l_X12_layHeld_31
    obtain ⟨s, ⟨h2, rfl, F2, S2, S3⟩, e⟩ := loop_ex (body := fun (k_ : Int32 × Hp → Option (Int32 × Hp)) (s : Int32 × Hp) => b_X12_layHeld_31 o (J k) K (fun v4q hq => k_ (v4q, hq)) s.1 s.2) (s := (J 0, h1)) (fun d s => ∃ h', s = (J d, h') ∧ FR (AHe o) h h' ∧ RHe h' o T Q k ∧ ∀ d', 0 ≤ d' → d' < d → hE h' (o + 14) (4 * k + d') = HE T Q k d') (fun s => K s.2) 4 (by omega) (by omega) ⟨h1, rfl, F, S, fun _ _ _ => by omega⟩ (by
        rintro K1 d s d0 d1 ⟨h', rfl, F, S, S3⟩
        have H' := H.frHe F
        have F0 : FR (AHe o) h (wE h' (o + 14) (4 * k + d) 0) := F.trans (FR.wE rfl)
        have S0 : RHe (wE h' (o + 14) (4 * k + d) 0) o T Q k := fun a b a0 a1 b0 b1 => by
          rw [hE_wE (by omega) (by omega) (by omega) (by omega), if_neg (by omega)]
          exact S a b a0 a1 b0 b1
        obtain ⟨h2, e2, F2, Z2, U2⟩ := inner k d (fun hz2 => j_X12_layHeld_112 o (J k) (J d) hz2 K (fun v4q hq => K1 (v4q, hq))) _ k0 k1 d0 d1 F0 S0 (by rw [hE_wE (by omega) (by omega) (by omega) (by omega), if_pos ⟨rfl, rfl⟩])
        refine ⟨(J (d + 1), h2), ⟨h2, rfl, F2, fun a b a0 a1 b0 b1 => ?_, fun d' e0 e1 => ?_⟩, ?_⟩
        · rw [U2 _ (by omega) (by omega)]
          exact S0 a b a0 a1 b0 b1
        · by_cases z : d' = d
          · rw [z]
            exact Z2
          · rw [U2 _ (by omega) (by omega), hE_wE (by omega) (by omega) (by omega) (by omega), if_neg (by omega)]
            exact S3 d' e0 (by omega)
        · show b_X12_layHeld_31 o (J k) K (fun v4q hq => K1 (v4q, hq)) (J d) h' = _
          simp (disch := omega) only [b_X12_layHeld_31, H'.1.r29, asI_ok H'.1.a29, lm8, lm2, lm1, l0, l1, l2, l3, l4, l5, l6, l7, l8, l9, l10, l11, l12, l13, l14, l15, l16, l17, l18, l19, l20, l21, l22, l23, l24, l25, l27, l31, l32, l40, l46, l48, l50, l57, l59, l63, l86, l96, l97, l100, l110, l114, l122, l127, l200, l255, l300, l319, l320, l340, l441, l456, l580, l600, l800, l886, l1206, l1526, J_add, J_sub, J_mul, J_neg, J_lt, J_le, J_eq, jT, jF, iT, iF, eT, eF, aT, aF, ite_true, ite_false, ite_not, bs]
          refine e2.trans ?_
          simp only [j_X12_layHeld_112, lm8, lm2, lm1, l0, l1, l2, l3, l4, l5, l6, l7, l8, l9, l10, l11, l12, l13, l14, l15, l16, l17, l18, l19, l20, l21, l22, l23, l24, l25, l27, l31, l32, l40, l46, l48, l50, l57, l59, l63, l86, l96, l97, l100, l110, l114, l122, l127, l200, l255, l300, l319, l320, l340, l441, l456, l580, l600, l800, l886, l1206, l1526, J_add, J_sub, J_mul, J_neg, J_lt, J_le, J_eq, jT, jF, iT, iF, eT, eF, aT, aF, ite_true, ite_false, ite_not, bs]) (by
        rintro K1 s ⟨h', rfl, F, -⟩
        show b_X12_layHeld_31 o (J k) K (fun v4q hq => K1 (v4q, hq)) (J 4) h' = _
        simp (disch := omega) only [b_X12_layHeld_31, lm8, lm2, lm1, l0, l1, l2, l3, l4, l5, l6, l7, l8, l9, l10, l11, l12, l13, l14, l15, l16, l17, l18, l19, l20, l21, l22, l23, l24, l25, l27, l31, l32, l40, l46, l48, l50, l57, l59, l63, l86, l96, l97, l100, l110, l114, l122, l127, l200, l255, l300, l319, l320, l340, l441, l456, l580, l600, l800, l886, l1206, l1526, J_add, J_sub, J_mul, J_neg, J_lt, J_le, J_eq, jT, jF, iT, iF, eT, eF, aT, aF, ite_true, ite_false, ite_not, bs])
    refine ⟨h2, e, F2, fun a b a0 a1 b0 b1 => ?_⟩
    by_cases z : a = k
    · rw [z]
      exact S3 b b0 b1
    · exact S2 a b a0 (by omega) b0 b1
  unfold l_X12_layHeld_20
  obtain ⟨s, ⟨h2, rfl, F2, S2⟩, e⟩ := loop_ex (body := fun (k_ : Int32 × Hp → Option (Int32 × Hp)) (s : Int32 × Hp) => b_X12_layHeld_20 o (fun v3q hq => k_ (v3q, hq)) s.1 s.2) (s := (J 0, h)) (fun k s => ∃ h', s = (J k, h') ∧ FR (AHe o) h h' ∧ RHe h' o T Q k) (fun s => some (J 1, s.2)) (Q 0) hsz.1 (by omega) ⟨h, rfl, FR.refl _ _, fun a b a0 a1 => by omega⟩ (by
      rintro K1 k s k0 k1 ⟨h', rfl, F, S⟩
      have G' := G.frHe F
      obtain ⟨h2, e2, F2, S2⟩ := mid k (fun hz2 => j_X12_layHeld_118 o (J k) hz2 (fun v3q hq => K1 (v3q, hq))) h' k0 k1 F S
      refine ⟨(J (k + 1), h2), ⟨h2, rfl, F2, S2⟩, ?_⟩
      show b_X12_layHeld_20 o (fun v3q hq => K1 (v3q, hq)) (J k) h' = _
      simp (disch := omega) only [b_X12_layHeld_20, rc_ok G'.tag, G'.many, lm8, lm2, lm1, l0, l1, l2, l3, l4, l5, l6, l7, l8, l9, l10, l11, l12, l13, l14, l15, l16, l17, l18, l19, l20, l21, l22, l23, l24, l25, l27, l31, l32, l40, l46, l48, l50, l57, l59, l63, l86, l96, l97, l100, l110, l114, l122, l127, l200, l255, l300, l319, l320, l340, l441, l456, l580, l600, l800, l886, l1206, l1526, J_add, J_sub, J_mul, J_neg, J_lt, J_le, J_eq, jT, jF, iT, iF, eT, eF, aT, aF, ite_true, ite_false, ite_not, bs]
      refine e2.trans ?_
      simp only [j_X12_layHeld_118, lm8, lm2, lm1, l0, l1, l2, l3, l4, l5, l6, l7, l8, l9, l10, l11, l12, l13, l14, l15, l16, l17, l18, l19, l20, l21, l22, l23, l24, l25, l27, l31, l32, l40, l46, l48, l50, l57, l59, l63, l86, l96, l97, l100, l110, l114, l122, l127, l200, l255, l300, l319, l320, l340, l441, l456, l580, l600, l800, l886, l1206, l1526, J_add, J_sub, J_mul, J_neg, J_lt, J_le, J_eq, jT, jF, iT, iF, eT, eF, aT, aF, ite_true, ite_false, ite_not, bs]) (by
      rintro K1 s ⟨h', rfl, F, -⟩
      have G' := G.frHe F
      show b_X12_layHeld_20 o (fun v3q hq => K1 (v3q, hq)) (J (Q 0)) h' = _
      simp (disch := omega) only [b_X12_layHeld_20, rc_ok G'.tag, G'.many, lm8, lm2, lm1, l0, l1, l2, l3, l4, l5, l6, l7, l8, l9, l10, l11, l12, l13, l14, l15, l16, l17, l18, l19, l20, l21, l22, l23, l24, l25, l27, l31, l32, l40, l46, l48, l50, l57, l59, l63, l86, l96, l97, l100, l110, l114, l122, l127, l200, l255, l300, l319, l320, l340, l441, l456, l580, l600, l800, l886, l1206, l1526, J_add, J_sub, J_mul, J_neg, J_lt, J_le, J_eq, jT, jF, iT, iF, eT, eF, aT, aF, ite_true, ite_false, ite_not, bs])
  exact ⟨h2, e, F2, S2⟩
end HR2
