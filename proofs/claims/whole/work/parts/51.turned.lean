/-! PURE PART: turned couples, both sides -/
theorem inv_sum {n m : Int} {F G : Int → Int} (hF : ∀ a, 0 ≤ a → a < n → -1 ≤ F a ∧ F a < m) (hG : ∀ e, 0 ≤ e → e < m → -1 ≤ G e ∧ G e < n) (hFG : ∀ a e, 0 ≤ a → a < n → 0 ≤ e → e < m → (F a = e ↔ G e = a)) : sumZ n (fun a => sumZ a (fun b => b01 (decide (F a ≠ -1) && decide (F a < F b)))) = sumZ m (fun p => sumZ p (fun e => b01 (decide (G e ≠ -1) && (decide (G p ≠ -1) && decide (G p < G e))))) := by
  have L : ∀ a, 0 ≤ a → a < n → sumZ a (fun b => b01 (decide (F a ≠ -1) && decide (F a < F b))) = sumZ n (fun b => sumZ m (fun e => sumZ m (fun p => if b < a ∧ e < p ∧ F a = e ∧ F b = p then (1 : Int) else 0))) := by
    intro a ha ha2
    refine Eq.trans ?_ (sumZ_cut (n := a) (N := n) ha (by omega) (fun b hb hb2 => sumZ_zero (fun e _ _ => sumZ_zero (fun p _ _ => if_neg (by omega))))).symm
    refine sumZ_congr (fun b hb hb2 => ?_)
    have h1 := hF a ha ha2
    have h2 := hF b hb (by omega)
    by_cases hc : F a ≠ -1 ∧ F a < F b
    · rw [decide_eq_true hc.1, decide_eq_true hc.2]
      exact Eq.symm ((sumZ_point (a := F a) (by omega) (by omega) (fun e _ _ he => sumZ_zero (fun p _ _ => if_neg (by omega)))).trans ((sumZ_point (a := F b) (by omega) (by omega) (fun p _ _ hp => if_neg (by omega))).trans (if_pos (by omega))))
    · have e : (decide (F a ≠ -1) && decide (F a < F b)) = false := by
        rw [Bool.and_eq_false_iff]
        by_cases h3 : F a ≠ -1
        · exact Or.inr (decide_eq_false (fun q => hc ⟨h3, q⟩))
        · exact Or.inl (decide_eq_false h3)
      rw [e]
      exact (sumZ_zero (fun e _ _ => sumZ_zero (fun p _ _ => if_neg (by omega)))).symm
  have R : ∀ p, 0 ≤ p → p < m → sumZ p (fun e => b01 (decide (G e ≠ -1) && (decide (G p ≠ -1) && decide (G p < G e)))) = sumZ m (fun e => sumZ n (fun a => sumZ n (fun b => if b < a ∧ e < p ∧ F a = e ∧ F b = p then (1 : Int) else 0))) := by
    intro p hp hp2
    refine Eq.trans ?_ (sumZ_cut (n := p) (N := m) hp (by omega) (fun e he he2 => sumZ_zero (fun a _ _ => sumZ_zero (fun b _ _ => if_neg (by omega))))).symm
    refine sumZ_congr (fun e he he2 => ?_)
    have h1 := hG p hp hp2
    have h2 := hG e he (by omega)
    by_cases hc : G e ≠ -1 ∧ G p ≠ -1 ∧ G p < G e
    · rw [decide_eq_true hc.1, decide_eq_true hc.2.1, decide_eq_true hc.2.2]
      have f1 := (hFG (G e) e (by omega) (by omega) he (by omega)).mpr rfl
      have f2 := (hFG (G p) p (by omega) (by omega) hp (by omega)).mpr rfl
      refine Eq.symm ((sumZ_point (a := G e) (by omega) (by omega) (fun a a1 a2 ha => sumZ_zero (fun b b1 b2 => if_neg (fun q => ?_)))).trans ((sumZ_point (a := G p) (by omega) (by omega) (fun b b1 b2 hb => if_neg (fun q => ?_))).trans (if_pos (by omega))))
      · exact ha ((hFG a e a1 a2 he (by omega)).mp q.2.2.1).symm
      · exact hb ((hFG b p b1 b2 hp (by omega)).mp q.2.2.2).symm
    · have e0 : (decide (G e ≠ -1) && (decide (G p ≠ -1) && decide (G p < G e))) = false := by
        rw [Bool.and_eq_false_iff, Bool.and_eq_false_iff]
        by_cases h3 : G e ≠ -1
        · by_cases h4 : G p ≠ -1
          · exact Or.inr (Or.inr (decide_eq_false (fun q => hc ⟨h3, h4, q⟩)))
          · exact Or.inr (Or.inl (decide_eq_false h4))
        · exact Or.inl (decide_eq_false h3)
      rw [e0]
      refine (sumZ_zero (fun a a1 a2 => sumZ_zero (fun b b1 b2 => if_neg (fun q => ?_)))).symm
      have f1 := (hFG a e a1 a2 he (by omega)).mp q.2.2.1
      have f2 := (hFG b p b1 b2 hp (by omega)).mp q.2.2.2
      omega
  rw [sumZ_congr L, sumZ_congr R]
  generalize hc : (fun a b e p : Int => if b < a ∧ e < p ∧ F a = e ∧ F b = p then (1 : Int) else 0) = c
  have hc2 : ∀ a b e p : Int, (if b < a ∧ e < p ∧ F a = e ∧ F b = p then (1 : Int) else 0) = c a b e p := fun a b e p => by rw [← hc]
  simp only [hc2]
  calc sumZ n (fun a => sumZ n (fun b => sumZ m (fun e => sumZ m (fun p => c a b e p))))
      = sumZ n (fun a => sumZ m (fun e => sumZ n (fun b => sumZ m (fun p => c a b e p)))) := sumZ_congr (fun a _ _ => sumZ_swap)
    _ = sumZ m (fun e => sumZ n (fun a => sumZ n (fun b => sumZ m (fun p => c a b e p)))) := sumZ_swap
    _ = sumZ m (fun e => sumZ n (fun a => sumZ m (fun p => sumZ n (fun b => c a b e p)))) := sumZ_congr (fun e _ _ => sumZ_congr (fun a _ _ => sumZ_swap))
    _ = sumZ m (fun e => sumZ m (fun p => sumZ n (fun a => sumZ n (fun b => c a b e p)))) := sumZ_congr (fun e _ _ => sumZ_swap)
    _ = sumZ m (fun p => sumZ m (fun e => sumZ n (fun a => sumZ n (fun b => c a b e p)))) := sumZ_swap
theorem plT_rg {T : Int → Int} (W : AW T) {d v t : Int} (hv : vvT T d v) : -1 ≤ plT T d v t ∧ plT T d v t < lnT T d v ∧ plT T d v t < 20 := by
  have hl := W.ln hv
  rcases plT_cases T d v t with ⟨e1, _⟩ | ⟨e1, e2, _⟩ <;> omega
theorem plT_eq {T : Int → Int} (W : AW T) {d v t q : Int} (hp : ppT T d v q) : plT T d v t = q ↔ rwT T d v q = t := by
  rcases plT_cases T d v t with ⟨e1, e2⟩ | ⟨e1, e2, e3, _⟩
  · have h1 := hp.2
    constructor
    · intro h
      omega
    · intro h
      rw [inV_iff.mpr ⟨q, hp.2.1, hp.2.2, h⟩] at e2
      cases e2
  · constructor
    · intro h
      rw [← h]
      exact e3
    · intro h
      exact W.2.2.2.2.2.2.1 d v _ _ ⟨hp.1, e1, e2⟩ hp (by rw [e3, h])
/-- couples of a version that stood the other way round in the one ahead -/
def tuT (T : Int → Int) (d v : Int) : Int := sumZ (lnT T d v) (fun a => sumZ a (fun b => b01 (decide (plT T d (v - 1) (rwT T d v a) ≠ -1) && decide (plT T d (v - 1) (rwT T d v a) < plT T d (v - 1) (rwT T d v b)))))
def trT (T : Int → Int) (d v : Int) : Int := sumZ (lnT T d (v - 1)) (fun p => sumZ p (fun e => b01 (decide (plT T d v (rwT T d (v - 1) e) ≠ -1) && (decide (plT T d v (rwT T d (v - 1) p) ≠ -1) && decide (plT T d v (rwT T d (v - 1) p) < plT T d v (rwT T d (v - 1) e))))))
theorem turned_eq {T : Int → Int} (W : AW T) {d v : Int} (hv : vvT T d v) (hw : vvT T d (v - 1)) : tuT T d v = trT T d v := by
  refine inv_sum (n := lnT T d v) (m := lnT T d (v - 1)) (F := fun a => plT T d (v - 1) (rwT T d v a)) (G := fun e => plT T d v (rwT T d (v - 1) e)) (fun a ha ha2 => ?_) (fun e he he2 => ?_) (fun a e ha ha2 he he2 => ?_)
  · have := plT_rg W hw (t := rwT T d v a)
    exact ⟨this.1, this.2.1⟩
  · have := plT_rg W hv (t := rwT T d (v - 1) e)
    exact ⟨this.1, this.2.1⟩
  · rw [plT_eq W ⟨hw, he, he2⟩, plT_eq W ⟨hv, ha, ha2⟩]
    exact ⟨Eq.symm, Eq.symm⟩
section TU
variable {h : Hp} {o : Nat} {T : Int → Int}
theorem CA.turned (H : CA h o T) {x : Nat} (hx : hTag h x = 3) {d v : Int} (hv : vvT T d v) : m_X2_turned x o (J d) (J v) h = some (J (if v = 0 then 0 else tuT T d v)) := by
  have hb := H.wf.vb hv
  have hl := H.wf.ln hv
  have h5 := H.wf.n5
  unfold m_X2_turned l_X2_turned_6
  by_cases hv0 : v = 0
  · rw [if_pos hv0]
    refine loop_int (fun i => (J 0, J i)) 0 (by omega) (by omega) rfl (fun k i hi hi2 => by omega) (fun k => ?_)
    by_cases hl2 : lnT T d v ≤ 0
    · simp (disch := omega) only [b_X2_turned_6, rc_ok H.tag, H.lengthOf hv, lm8, lm2, lm1, l0, l1, l2, l3, l4, l5, l6, l7, l8, l9, l10, l11, l12, l13, l14, l15, l16, l17, l18, l19, l20, l21, l22, l23, l24, l25, l27, l31, l32, l40, l46, l48, l50, l57, l59, l63, l86, l96, l97, l100, l110, l114, l122, l127, l200, l255, l300, l319, l320, l340, l441, l456, l580, l600, l800, l886, l1206, l1526, J_add, J_sub, J_mul, J_neg, J_lt, J_le, J_eq, jT, jF, iT, iF, eT, eF, aT, aF, ite_true, ite_false, ite_not, bs]
    · simp (disch := omega) only [b_X2_turned_6, rc_ok H.tag, H.lengthOf hv, lm8, lm2, lm1, l0, l1, l2, l3, l4, l5, l6, l7, l8, l9, l10, l11, l12, l13, l14, l15, l16, l17, l18, l19, l20, l21, l22, l23, l24, l25, l27, l31, l32, l40, l46, l48, l50, l57, l59, l63, l86, l96, l97, l100, l110, l114, l122, l127, l200, l255, l300, l319, l320, l340, l441, l456, l580, l600, l800, l886, l1206, l1526, J_add, J_sub, J_mul, J_neg, J_lt, J_le, J_eq, jT, jF, iT, iF, eT, eF, aT, aF, ite_true, ite_false, ite_not, bs]
  · rw [if_neg hv0]
    have hw : vvT T d (v - 1) := ⟨hv.1, hv.2.1, by omega, by have := hv.2.2.2; omega⟩
    have inner : ∀ (a : Int) (K : Int32 → Option Int32) (s : Int), 0 ≤ a → a < lnT T d v → l_X2_turned_43 x o (J d) (J v) (J a) (J (plT T d (v - 1) (rwT T d v a))) h K (J s) (J 0) = K (J (s + sumZ a (fun b => b01 (decide (plT T d (v - 1) (rwT T d v a) ≠ -1) && decide (plT T d (v - 1) (rwT T d v a) < plT T d (v - 1) (rwT T d v b)))))) := by
      intro a K s ha ha2
      have hg := plT_rg H.wf hw (t := rwT T d v a)
      unfold l_X2_turned_43
      by_cases hF : plT T d (v - 1) (rwT T d v a) = -1
      · rw [sumZ_zero (fun b _ _ => by rw [decide_eq_false (by omega)]; rfl), Int.add_zero]
        refine loop_int (fun i => (J s, J i)) 0 (by omega) (by omega) rfl (fun k i hi hi2 => by omega) (fun k => ?_)
        by_cases hl2 : a ≤ 0
        · simp (disch := omega) only [b_X2_turned_43, lm8, lm2, lm1, l0, l1, l2, l3, l4, l5, l6, l7, l8, l9, l10, l11, l12, l13, l14, l15, l16, l17, l18, l19, l20, l21, l22, l23, l24, l25, l27, l31, l32, l40, l46, l48, l50, l57, l59, l63, l86, l96, l97, l100, l110, l114, l122, l127, l200, l255, l300, l319, l320, l340, l441, l456, l580, l600, l800, l886, l1206, l1526, J_add, J_sub, J_mul, J_neg, J_lt, J_le, J_eq, jT, jF, iT, iF, eT, eF, aT, aF, ite_true, ite_false, ite_not, bs]
        · simp (disch := omega) only [b_X2_turned_43, hF, lm8, lm2, lm1, l0, l1, l2, l3, l4, l5, l6, l7, l8, l9, l10, l11, l12, l13, l14, l15, l16, l17, l18, l19, l20, l21, l22, l23, l24, l25, l27, l31, l32, l40, l46, l48, l50, l57, l59, l63, l86, l96, l97, l100, l110, l114, l122, l127, l200, l255, l300, l319, l320, l340, l441, l456, l580, l600, l800, l886, l1206, l1526, J_add, J_sub, J_mul, J_neg, J_lt, J_le, J_eq, jT, jF, iT, iF, eT, eF, aT, aF, ite_true, ite_false, ite_not, bs]
      · refine loop_int (fun i => (J (s + sumZ i (fun b => b01 (decide (plT T d (v - 1) (rwT T d v a) ≠ -1) && decide (plT T d (v - 1) (rwT T d v a) < plT T d (v - 1) (rwT T d v b))))), J i)) a ha (by omega) (by simp [sumZ_0]) (fun k i hi hi2 => ?_) (fun k => ?_)
        · have hp : ppT T d v i := ⟨hv, hi, by omega⟩
          have hr := H.wf.rw hp
          have hg2 := plT_rg H.wf hw (t := rwT T d v i)
          rw [sumZ_succ hi, decide_eq_true hF, Bool.true_and]
          by_cases hc : plT T d (v - 1) (rwT T d v a) < plT T d (v - 1) (rwT T d v i)
          · rw [decide_eq_true hc]
            simp (disch := omega) only [b_X2_turned_43, j_X2_turned_89, rc_ok H.tag, rc_ok hx, H.tokenAt hp, H.placeOf hw, lm8, lm2, lm1, l0, l1, l2, l3, l4, l5, l6, l7, l8, l9, l10, l11, l12, l13, l14, l15, l16, l17, l18, l19, l20, l21, l22, l23, l24, l25, l27, l31, l32, l40, l46, l48, l50, l57, l59, l63, l86, l96, l97, l100, l110, l114, l122, l127, l200, l255, l300, l319, l320, l340, l441, l456, l580, l600, l800, l886, l1206, l1526, J_add, J_sub, J_mul, J_neg, J_lt, J_le, J_eq, jT, jF, iT, iF, eT, eF, aT, aF, ite_true, ite_false, ite_not, bs, Int.add_assoc]
            rfl
          · rw [decide_eq_false hc]
            simp (disch := omega) only [b_X2_turned_43, j_X2_turned_89, rc_ok H.tag, rc_ok hx, H.tokenAt hp, H.placeOf hw, lm8, lm2, lm1, l0, l1, l2, l3, l4, l5, l6, l7, l8, l9, l10, l11, l12, l13, l14, l15, l16, l17, l18, l19, l20, l21, l22, l23, l24, l25, l27, l31, l32, l40, l46, l48, l50, l57, l59, l63, l86, l96, l97, l100, l110, l114, l122, l127, l200, l255, l300, l319, l320, l340, l441, l456, l580, l600, l800, l886, l1206, l1526, J_add, J_sub, J_mul, J_neg, J_lt, J_le, J_eq, jT, jF, iT, iF, eT, eF, aT, aF, ite_true, ite_false, ite_not, bs, Int.add_assoc]
            rfl
        · simp (disch := omega) only [b_X2_turned_43, lm8, lm2, lm1, l0, l1, l2, l3, l4, l5, l6, l7, l8, l9, l10, l11, l12, l13, l14, l15, l16, l17, l18, l19, l20, l21, l22, l23, l24, l25, l27, l31, l32, l40, l46, l48, l50, l57, l59, l63, l86, l96, l97, l100, l110, l114, l122, l127, l200, l255, l300, l319, l320, l340, l441, l456, l580, l600, l800, l886, l1206, l1526, J_add, J_sub, J_mul, J_neg, J_lt, J_le, J_eq, jT, jF, iT, iF, eT, eF, aT, aF, ite_true, ite_false, ite_not, bs]
    unfold tuT
    refine loop_int (fun i => (J (sumZ i (fun a => sumZ a (fun b => b01 (decide (plT T d (v - 1) (rwT T d v a) ≠ -1) && decide (plT T d (v - 1) (rwT T d v a) < plT T d (v - 1) (rwT T d v b)))))), J i)) (lnT T d v) hl.1 (by omega) rfl (fun k i hi hi2 => ?_) (fun k => ?_)
    · have hp : ppT T d v i := ⟨hv, hi, hi2⟩
      have hr := H.wf.rw hp
      have e := fun K s => inner i K s hi hi2
      rw [sumZ_succ hi]
      simp (disch := omega) only [b_X2_turned_6, j_X2_turned_98, rc_ok H.tag, rc_ok hx, H.lengthOf hv, H.tokenAt hp, H.placeOf hw, lm8, lm2, lm1, l0, l1, l2, l3, l4, l5, l6, l7, l8, l9, l10, l11, l12, l13, l14, l15, l16, l17, l18, l19, l20, l21, l22, l23, l24, l25, l27, l31, l32, l40, l46, l48, l50, l57, l59, l63, l86, l96, l97, l100, l110, l114, l122, l127, l200, l255, l300, l319, l320, l340, l441, l456, l580, l600, l800, l886, l1206, l1526, J_add, J_sub, J_mul, J_neg, J_lt, J_le, J_eq, jT, jF, iT, iF, eT, eF, aT, aF, ite_true, ite_false, ite_not, bs, e]
    · simp (disch := omega) only [b_X2_turned_6, rc_ok H.tag, H.lengthOf hv, lm8, lm2, lm1, l0, l1, l2, l3, l4, l5, l6, l7, l8, l9, l10, l11, l12, l13, l14, l15, l16, l17, l18, l19, l20, l21, l22, l23, l24, l25, l27, l31, l32, l40, l46, l48, l50, l57, l59, l63, l86, l96, l97, l100, l110, l114, l122, l127, l200, l255, l300, l319, l320, l340, l441, l456, l580, l600, l800, l886, l1206, l1526, J_add, J_sub, J_mul, J_neg, J_lt, J_le, J_eq, jT, jF, iT, iF, eT, eF, aT, aF, ite_true, ite_false, ite_not, bs]
theorem RM.turned (H : RM h o T) {d v : Int} (hv : vvT T d v) : m_X12_turned o (J d) (J v) h = some (J (if v = 0 then 0 else trT T d v)) := by
  have hb := H.wf.vb hv
  have hl0 := H.wf.ln hv
  have h5 := H.wf.n5
  unfold m_X12_turned l_X12_turned_5
  by_cases hv0 : v = 0
  · rw [if_pos hv0]
    refine loop_int (fun i => (J 0, J i)) 0 (by omega) (by omega) rfl (fun k i hi hi2 => by omega) (fun k => ?_)
    simp (disch := omega) only [b_X12_turned_5, lm8, lm2, lm1, l0, l1, l2, l3, l4, l5, l6, l7, l8, l9, l10, l11, l12, l13, l14, l15, l16, l17, l18, l19, l20, l21, l22, l23, l24, l25, l27, l31, l32, l40, l46, l48, l50, l57, l59, l63, l86, l96, l97, l100, l110, l114, l122, l127, l200, l255, l300, l319, l320, l340, l441, l456, l580, l600, l800, l886, l1206, l1526, J_add, J_sub, J_mul, J_neg, J_lt, J_le, J_eq, jT, jF, iT, iF, eT, eF, aT, aF, ite_true, ite_false, ite_not, bs]
  · rw [if_neg hv0]
    have hw : vvT T d (v - 1) := ⟨hv.1, hv.2.1, by omega, by have := hv.2.2.2; omega⟩
    have hl := H.wf.ln hw
    have inner : ∀ (p : Int) (K : Int32 → Option Int32) (s : Int), 0 ≤ p → p < lnT T d (v - 1) → l_X12_turned_25 o (J d) (J v) (J p) h K (J s) (J 0) = K (J (s + sumZ p (fun e => b01 (decide (plT T d v (rwT T d (v - 1) e) ≠ -1) && (decide (plT T d v (rwT T d (v - 1) p) ≠ -1) && decide (plT T d v (rwT T d (v - 1) p) < plT T d v (rwT T d (v - 1) e))))))) := by
      intro p K s ha ha2
      have hg := plT_rg H.wf hv (t := rwT T d (v - 1) p)
      have hpp : ppT T d (v - 1) p := ⟨hw, ha, ha2⟩
      have hrp := H.wf.rw hpp
      unfold l_X12_turned_25
      refine loop_int (fun i => (J (s + sumZ i (fun e => b01 (decide (plT T d v (rwT T d (v - 1) e) ≠ -1) && (decide (plT T d v (rwT T d (v - 1) p) ≠ -1) && decide (plT T d v (rwT T d (v - 1) p) < plT T d v (rwT T d (v - 1) e)))))), J i)) p ha (by omega) (by simp [sumZ_0]) (fun k i hi hi2 => ?_) (fun k => ?_)
      · have hp : ppT T d (v - 1) i := ⟨hw, hi, by omega⟩
        have hr := H.wf.rw hp
        have hg2 := plT_rg H.wf hv (t := rwT T d (v - 1) i)
        rw [sumZ_succ hi]
        by_cases h1 : plT T d v (rwT T d (v - 1) i) = -1
        · simp (disch := omega) only [b_X12_turned_25, j_X12_turned_93, rc_ok H.tag, H.tokenAt, H.placeOf hv, h1, lm8, lm2, lm1, l0, l1, l2, l3, l4, l5, l6, l7, l8, l9, l10, l11, l12, l13, l14, l15, l16, l17, l18, l19, l20, l21, l22, l23, l24, l25, l27, l31, l32, l40, l46, l48, l50, l57, l59, l63, l86, l96, l97, l100, l110, l114, l122, l127, l200, l255, l300, l319, l320, l340, l441, l456, l580, l600, l800, l886, l1206, l1526, J_add, J_sub, J_mul, J_neg, J_lt, J_le, J_eq, jT, jF, iT, iF, eT, eF, aT, aF, ite_true, ite_false, ite_not, bs, Int.add_assoc]
          simp [b01]
        · by_cases h2 : plT T d v (rwT T d (v - 1) p) = -1
          · simp (disch := omega) only [b_X12_turned_25, j_X12_turned_93, rc_ok H.tag, H.tokenAt, H.placeOf hv, h2, lm8, lm2, lm1, l0, l1, l2, l3, l4, l5, l6, l7, l8, l9, l10, l11, l12, l13, l14, l15, l16, l17, l18, l19, l20, l21, l22, l23, l24, l25, l27, l31, l32, l40, l46, l48, l50, l57, l59, l63, l86, l96, l97, l100, l110, l114, l122, l127, l200, l255, l300, l319, l320, l340, l441, l456, l580, l600, l800, l886, l1206, l1526, J_add, J_sub, J_mul, J_neg, J_lt, J_le, J_eq, jT, jF, iT, iF, eT, eF, aT, aF, ite_true, ite_false, ite_not, bs, Int.add_assoc]
            simp [b01]
          · rw [decide_eq_true h1, decide_eq_true h2]
            by_cases hc : plT T d v (rwT T d (v - 1) p) < plT T d v (rwT T d (v - 1) i)
            · rw [decide_eq_true hc]
              simp (disch := omega) only [b_X12_turned_25, j_X12_turned_93, rc_ok H.tag, H.tokenAt, H.placeOf hv, lm8, lm2, lm1, l0, l1, l2, l3, l4, l5, l6, l7, l8, l9, l10, l11, l12, l13, l14, l15, l16, l17, l18, l19, l20, l21, l22, l23, l24, l25, l27, l31, l32, l40, l46, l48, l50, l57, l59, l63, l86, l96, l97, l100, l110, l114, l122, l127, l200, l255, l300, l319, l320, l340, l441, l456, l580, l600, l800, l886, l1206, l1526, J_add, J_sub, J_mul, J_neg, J_lt, J_le, J_eq, jT, jF, iT, iF, eT, eF, aT, aF, ite_true, ite_false, ite_not, bs, Int.add_assoc]
              rfl
            · rw [decide_eq_false hc]
              simp (disch := omega) only [b_X12_turned_25, j_X12_turned_93, rc_ok H.tag, H.tokenAt, H.placeOf hv, lm8, lm2, lm1, l0, l1, l2, l3, l4, l5, l6, l7, l8, l9, l10, l11, l12, l13, l14, l15, l16, l17, l18, l19, l20, l21, l22, l23, l24, l25, l27, l31, l32, l40, l46, l48, l50, l57, l59, l63, l86, l96, l97, l100, l110, l114, l122, l127, l200, l255, l300, l319, l320, l340, l441, l456, l580, l600, l800, l886, l1206, l1526, J_add, J_sub, J_mul, J_neg, J_lt, J_le, J_eq, jT, jF, iT, iF, eT, eF, aT, aF, ite_true, ite_false, ite_not, bs, Int.add_assoc]
              rfl
      · simp (disch := omega) only [b_X12_turned_25, lm8, lm2, lm1, l0, l1, l2, l3, l4, l5, l6, l7, l8, l9, l10, l11, l12, l13, l14, l15, l16, l17, l18, l19, l20, l21, l22, l23, l24, l25, l27, l31, l32, l40, l46, l48, l50, l57, l59, l63, l86, l96, l97, l100, l110, l114, l122, l127, l200, l255, l300, l319, l320, l340, l441, l456, l580, l600, l800, l886, l1206, l1526, J_add, J_sub, J_mul, J_neg, J_lt, J_le, J_eq, jT, jF, iT, iF, eT, eF, aT, aF, ite_true, ite_false, ite_not, bs]
    unfold trT
    refine loop_int (fun i => (J (sumZ i (fun p => sumZ p (fun e => b01 (decide (plT T d v (rwT T d (v - 1) e) ≠ -1) && (decide (plT T d v (rwT T d (v - 1) p) ≠ -1) && decide (plT T d v (rwT T d (v - 1) p) < plT T d v (rwT T d (v - 1) e))))))), J i)) (lnT T d (v - 1)) hl.1 (by omega) rfl (fun k i hi hi2 => ?_) (fun k => ?_)
    · have e := fun K s => inner i K s hi hi2
      rw [sumZ_succ hi]
      simp (disch := omega) only [b_X12_turned_5, j_X12_turned_101, rc_ok H.tag, H.longOf, lm8, lm2, lm1, l0, l1, l2, l3, l4, l5, l6, l7, l8, l9, l10, l11, l12, l13, l14, l15, l16, l17, l18, l19, l20, l21, l22, l23, l24, l25, l27, l31, l32, l40, l46, l48, l50, l57, l59, l63, l86, l96, l97, l100, l110, l114, l122, l127, l200, l255, l300, l319, l320, l340, l441, l456, l580, l600, l800, l886, l1206, l1526, J_add, J_sub, J_mul, J_neg, J_lt, J_le, J_eq, jT, jF, iT, iF, eT, eF, aT, aF, ite_true, ite_false, ite_not, bs, e]
    · simp (disch := omega) only [b_X12_turned_5, rc_ok H.tag, H.longOf, lm8, lm2, lm1, l0, l1, l2, l3, l4, l5, l6, l7, l8, l9, l10, l11, l12, l13, l14, l15, l16, l17, l18, l19, l20, l21, l22, l23, l24, l25, l27, l31, l32, l40, l46, l48, l50, l57, l59, l63, l86, l96, l97, l100, l110, l114, l122, l127, l200, l255, l300, l319, l320, l340, l441, l456, l580, l600, l800, l886, l1206, l1526, J_add, J_sub, J_mul, J_neg, J_lt, J_le, J_eq, jT, jF, iT, iF, eT, eF, aT, aF, ite_true, ite_false, ite_not, bs]
end TU
