/-! PURE PART: lives, words as numbers, times, dates -/
section Z55
variable {T : Int → Int}
def laZ (n : Int) (p : Int → Bool) : Int := laN n.toNat (fun i => p i)
theorem laZ_succ {n : Int} {p : Int → Bool} (h : 0 ≤ n) : laZ (n + 1) p = if p n = true then n else laZ n p := by
  unfold laZ
  rw [show (n + 1).toNat = n.toNat + 1 by omega]
  show (if p (n.toNat : Int) = true then ((n.toNat : Nat) : Int) else _) = _
  rw [Int.toNat_of_nonneg h]
theorem laZ_spec (n : Int) (p : Int → Bool) : (laZ n p = -1 ∧ ∀ i, 0 ≤ i → i < n → p i = false) ∨ (0 ≤ laZ n p ∧ laZ n p < n ∧ p (laZ n p) = true ∧ ∀ j, laZ n p < j → j < n → p j = false) := by
  unfold laZ
  rcases laN_spec n.toNat (fun i => p i) with ⟨h1, h2⟩ | ⟨i, h1, h2, h3, h4⟩
  · refine Or.inl ⟨h1, fun i h3 h4 => ?_⟩
    have := h2 i.toNat (by omega)
    rw [Int.toNat_of_nonneg h3] at this
    exact this
  · refine Or.inr ⟨by omega, by omega, by rw [h2]; exact h3, fun j h5 h6 => ?_⟩
    have := h4 j.toNat (by omega) (by omega)
    rw [Int.toNat_of_nonneg (by omega)] at this
    exact this
theorem bt_high {m : Nat} {v : Int} (hm : m < 1024) (h : 10 ≤ v) : bt m v = false := by
  unfold bt
  rw [decide_eq_true (by omega), Bool.true_and]
  exact Nat.testBit_lt_two_pow (Nat.lt_of_lt_of_le hm (show 1024 ≤ 2 ^ v.toNat from Nat.le_trans (show 1024 ≤ 2 ^ 10 by decide) (Nat.pow_le_pow_right (by decide) (by omega))))
theorem laZ_cut {m : Nat} (hm : m < 1024) {n : Int} (hn : 10 ≤ n) : laZ n (bt m) = laZ 10 (bt m) := by
  rcases laZ_spec n (bt m) with ⟨e1, e2⟩ | ⟨e1, e2, e3, e4⟩ <;> rcases laZ_spec 10 (bt m) with ⟨f1, f2⟩ | ⟨f1, f2, f3, f4⟩
  · omega
  · rw [e2 _ f1 (by omega)] at f3
    cases f3
  · by_cases hc : laZ n (bt m) < 10
    · rw [f2 _ e1 hc] at e3
      cases e3
    · rw [bt_high hm (by omega)] at e3
      cases e3
  · by_cases hc : laZ n (bt m) < 10
    · by_cases h1 : laZ n (bt m) < laZ 10 (bt m)
      · rw [e4 _ h1 (by omega)] at f3
        cases f3
      · by_cases h2 : laZ 10 (bt m) < laZ n (bt m)
        · rw [f4 _ h2 hc] at e3
          cases e3
        · omega
    · rw [bt_high hm (by omega)] at e3
      cases e3
/-- the words that there are -/
def wrg (w : Int) : Prop := 1 ≤ w ∧ w < 531441 ∧ w % 27 ≠ 0
theorem wide_eq {a b : Int} (ha : wrg a) (hb : wrg b) : (wide a = wide b) = (a = b) := propext ⟨fun q => wide_inj ha.1 ha.2.1 ha.2.2 hb.1 hb.2.1 hb.2.2 q, fun q => by rw [q]⟩
def wnF (a : Int) : Int := if a % 27 = 0 then a / 27 else a
theorem wnF_wide {w : Int} (h : wrg w) : wnF (wnF (wnF (wide w))) = w := by
  obtain ⟨h1, h2, h3⟩ := h
  unfold wide
  split
  · rw [show wnF (w * 19683) = w * 729 by unfold wnF; rw [if_pos (by omega)]; omega, show wnF (w * 729) = w * 27 by unfold wnF; rw [if_pos (by omega)]; omega]
    unfold wnF
    rw [if_pos (by omega)]
    omega
  · split
    · rw [show wnF (w * 729) = w * 27 by unfold wnF; rw [if_pos (by omega)]; omega, show wnF (w * 27) = w by unfold wnF; rw [if_pos (by omega)]; omega]
      unfold wnF
      rw [if_neg h3]
    · split
      · rw [show wnF (w * 27) = w by unfold wnF; rw [if_pos (by omega)]; omega, show wnF w = w by unfold wnF; rw [if_neg h3]]
        unfold wnF
        rw [if_neg h3]
      · rw [show wnF w = w by unfold wnF; rw [if_neg h3], show wnF w = w by unfold wnF; rw [if_neg h3]]
        unfold wnF
        rw [if_neg h3]
theorem wnF_rg {a : Int} (h0 : 0 ≤ a) (h1 : a < 2147483648) : 0 ≤ wnF a ∧ wnF a < 2147483648 := by
  unfold wnF
  split <;> omega
def tiT (T : Int → Int) (d v w : Int) : Int := sumZ (lnT T d v) (fun q => b01 (decide (wdT T (rwT T d v q) = w)))
/-- dates: below how many versions there are -/
def nvT (T : Int → Int) : Int := sumZ (T 0) (fun d => T (1 + d))
def DW (T : Int → Int) : Prop := ∀ d v, vvT T d v → 0 ≤ dtT T d v ∧ dtT T d v < nvT T
def DA (h : Hp) (o : Nat) (T : Int → Int) : Prop := DW T ∧ ∀ d v, vvT T d v → hE h (o + 2) (d * 10 + v) = dtT T d v
theorem nvT_rg (W : AW T) : 0 ≤ nvT T ∧ nvT T ≤ 40 := by
  have h0 := W.n0
  have := sumZ_nonneg (n := T 0) (c := 10) (f := fun d => T (1 + d)) h0.1 (fun d d0 d1 => by have := W.nv d0 (by omega); exact this)
  unfold nvT
  omega
def ddT2 (T : Int → Int) (x : Int) : Int := fiZ (T 0) (fun d => anyZ (T (1 + d)) (fun v => decide (dtT T d v = x)))
section LI
variable {h : Hp} {o : Nat} {T : Int → Int}
theorem X5_lastBit_ok {m : Nat} (hm : m < 1024) : m_X5_lastBit (J m) h = some (J (laZ 10 (bt m))) := by
  rw [← laZ_cut hm (n := 32) (by omega)]
  unfold m_X5_lastBit l_X5_lastBit_4
  refine loop_int (fun i => (J (laZ i (bt m)), J i)) 32 (by omega) (by omega) rfl (fun k i hi hi2 => ?_) (fun k => ?_)
  · rw [laZ_succ hi]
    have e1 := X5_bit_ok (h := h) (v := i) hm (by omega) (by omega)
    cases hb : bt m i
    · rw [hb] at e1
      simp (disch := omega) only [b_X5_lastBit_4, j_X5_lastBit_21, e1, l0, l1, l32, J_le, iF, bs, b1N, cond_false, J_add]
      rfl
    · rw [hb] at e1
      simp (disch := omega) only [b_X5_lastBit_4, j_X5_lastBit_21, e1, l0, l1, l32, J_le, iF, bs, b1N, cond_true, J_add]
      rfl
  · simp (disch := omega) only [b_X5_lastBit_4, l32, J_le, iT]
theorem X12_lastIn_ok {m : Nat} (hm : m < 1024) : m_X12_lastIn (J m) h = some (J (laZ 10 (bt m))) := by
  unfold m_X12_lastIn l_X12_lastIn_4
  refine loop_int (fun i => (J (laZ i (bt m)), J i)) 10 (by omega) (by omega) rfl (fun k i hi hi2 => ?_) (fun k => ?_)
  · rw [laZ_succ hi]
    have e1 := X12_has_ok (h := h) (v := i) hm hi (by omega)
    cases hb : bt m i
    · rw [hb] at e1
      simp (disch := omega) only [b_X12_lastIn_4, j_X12_lastIn_23, e1, l0, l1, l10, J_le, iF, bs, bI, cond_false, J_add]
      rfl
    · rw [hb] at e1
      simp (disch := omega) only [b_X12_lastIn_4, j_X12_lastIn_23, e1, l0, l1, l10, J_le, iF, bs, bI, cond_true, J_add]
      rfl
  · simp (disch := omega) only [b_X12_lastIn_4, l10, J_le, iT]
theorem X12_firstIn_ok {m : Nat} (hm : m < 1024) (h0 : 0 < m) : m_X12_firstIn (J m) h = some (J (fiN 10 (fun v => m.testBit v))) := by
  have hbt : ∀ i : Nat, bt m i = m.testBit i := by
    intro i
    unfold bt
    rw [decide_eq_true (by omega), Bool.true_and]
    rfl
  have e : fiN 10 (fun v => m.testBit v) = fiZ 10 (bt m) := by
    unfold fiZ
    show fiN 10 _ = fiN 10 _
    congr 1
  rw [e]
  rcases fiZ_spec 10 (bt m) with ⟨e1, e2⟩ | ⟨e1, e2, e3, e4⟩
  · exfalso
    have : m = 0 := by
      refine Nat.eq_of_testBit_eq (fun i => ?_)
      rw [Nat.zero_testBit, ← hbt]
      by_cases hi : i < 10
      · exact e2 i (by omega) (by omega)
      · exact bt_high hm (by omega)
    omega
  · unfold m_X12_firstIn l_X12_firstIn_2
    refine loop_int (fun i => J i) (fiZ 10 (bt m)) e1 (by omega) rfl (fun k i hi hi2 => ?_) (fun k => ?_)
    · have e5 := X12_has_F (h := h) (v := i) hm hi (by omega) (e4 i hi hi2)
      simp (disch := omega) only [b_X12_firstIn_2, e5, lm8, lm2, lm1, l0, l1, l2, l3, l4, l5, l6, l7, l8, l9, l10, l11, l12, l13, l14, l15, l16, l17, l18, l19, l20, l21, l22, l23, l24, l25, l27, l31, l32, l40, l46, l48, l50, l57, l59, l63, l86, l96, l97, l100, l110, l114, l122, l127, l200, l255, l300, l319, l320, l340, l441, l456, l580, l600, l800, l886, l1206, l1526, J_add, J_sub, J_mul, J_neg, J_lt, J_le, J_eq, jT, jF, iT, iF, eT, eF, aT, aF, ite_true, ite_false, ite_not, bs]
    · have e5 := X12_has_T (h := h) (v := fiZ 10 (bt m)) hm e1 (by omega) e3
      simp (disch := omega) only [b_X12_firstIn_2, e5, lm8, lm2, lm1, l0, l1, l2, l3, l4, l5, l6, l7, l8, l9, l10, l11, l12, l13, l14, l15, l16, l17, l18, l19, l20, l21, l22, l23, l24, l25, l27, l31, l32, l40, l46, l48, l50, l57, l59, l63, l86, l96, l97, l100, l110, l114, l122, l127, l200, l255, l300, l319, l320, l340, l441, l456, l580, l600, l800, l886, l1206, l1526, J_add, J_sub, J_mul, J_neg, J_lt, J_le, J_eq, jT, jF, iT, iF, eT, eF, aT, aF, ite_true, ite_false, ite_not, bs]
theorem X5_wordNumber_ok {w : Int} (hw : wrg w) : m_X5_wordNumber (J (wide w)) h = some (J w) := by
  have hr := wide_rg hw.1 hw.2.1
  have step : ∀ (k : Int32 → Int32 → Option Int32) (a v : Int), 0 ≤ a → a < 2147483648 → 1 ≤ v → v < 4 → b_X5_wordNumber_4 h k (J a) (J v) = k (J (wnF a)) (J (v + 1)) := by
    intro k a v a0 a1 v0 v1
    unfold wnF
    by_cases hc : a % 27 = 0
    · rw [if_pos hc]
      simp (disch := omega) only [b_X5_wordNumber_4, j_X5_wordNumber_21, l0, l1, l4, l27, J_le, J_eq, J_rem, J_div, J_add, iF, eT, ite_not]
    · rw [if_neg hc]
      simp (disch := omega) only [b_X5_wordNumber_4, j_X5_wordNumber_21, l0, l1, l4, l27, J_le, J_eq, J_rem, J_div, J_add, iF, eF, ite_not]
  have r1 := wnF_rg (a := wide w) (by omega) (by omega)
  have r2 := wnF_rg (a := wnF (wide w)) r1.1 r1.2
  unfold m_X5_wordNumber l_X5_wordNumber_4
  refine loop_int (fun i => (J (if i = 0 then wide w else if i = 1 then wnF (wide w) else if i = 2 then wnF (wnF (wide w)) else w), J (i + 1))) 3 (by omega) (by omega) rfl (fun k i hi hi2 => ?_) (fun k => ?_)
  · have : i = 0 ∨ i = 1 ∨ i = 2 := by omega
    rcases this with rfl | rfl | rfl
    · exact step _ _ _ (by omega) (by omega) (by omega) (by omega)
    · exact step _ _ _ r1.1 r1.2 (by omega) (by omega)
    · refine (step _ _ _ r2.1 r2.2 (by omega) (by omega)).trans ?_
      rw [wnF_wide hw]
      rfl
  · show b_X5_wordNumber_4 h _ (J w) (J (3 + 1)) = _
    simp (disch := omega) only [b_X5_wordNumber_4, l4, J_le, iT]
theorem CA.hasPlace (H : CA h o T) {d v q : Int} (h1 : -2147483648 ≤ d) (h2 : d < 2147483648) (h3 : -2147483648 ≤ v) (h4 : v < 2147483648) (h5 : -2147483648 ≤ q) (h6 : q < 2147483648) : m_X0_hasPlace o (J d) (J v) (J q) h = some (J (b01 (vbT T d v && (decide (0 ≤ q) && decide (q < lnT T d v))))) := by
  have e1 := H.isVer (d := d) (v := v) h1 h2 h3 h4
  cases hv : vbT T d v
  · rw [hv] at e1
    simp (disch := omega) only [m_X0_hasPlace, j_X0_hasPlace_28, rc_ok H.tag, e1, lm8, lm2, lm1, l0, l1, l2, l3, l4, l5, l6, l7, l8, l9, l10, l11, l12, l13, l14, l15, l16, l17, l18, l19, l20, l21, l22, l23, l24, l25, l27, l31, l32, l40, l46, l48, l50, l57, l59, l63, l86, l96, l97, l100, l110, l114, l122, l127, l200, l255, l300, l319, l320, l340, l441, l456, l580, l600, l800, l886, l1206, l1526, J_add, J_sub, J_mul, J_neg, J_lt, J_le, J_eq, jT, jF, iT, iF, eT, eF, aT, aF, ite_true, ite_false, ite_not, bs, bI, cond_false, zb0, Bool.false_and]
    rfl
  · rw [hv] at e1
    have hvv := vbT_iff.mp hv
    have hl := H.wf.ln hvv
    rw [Bool.true_and]
    by_cases hq : q < 0
    · rw [decide_eq_false (show ¬ 0 ≤ q by omega), Bool.false_and]
      simp (disch := omega) only [m_X0_hasPlace, j_X0_hasPlace_28, rc_ok H.tag, e1, lm8, lm2, lm1, l0, l1, l2, l3, l4, l5, l6, l7, l8, l9, l10, l11, l12, l13, l14, l15, l16, l17, l18, l19, l20, l21, l22, l23, l24, l25, l27, l31, l32, l40, l46, l48, l50, l57, l59, l63, l86, l96, l97, l100, l110, l114, l122, l127, l200, l255, l300, l319, l320, l340, l441, l456, l580, l600, l800, l886, l1206, l1526, J_add, J_sub, J_mul, J_neg, J_lt, J_le, J_eq, jT, jF, iT, iF, eT, eF, aT, aF, ite_true, ite_false, ite_not, bs, bI, cond_true, zb0]
      rfl
    · rw [decide_eq_true (show 0 ≤ q by omega), Bool.true_and]
      by_cases hq2 : q < lnT T d v
      · rw [decide_eq_true hq2]
        simp (disch := omega) only [m_X0_hasPlace, j_X0_hasPlace_28, rc_ok H.tag, H.lengthOf hvv, e1, lm8, lm2, lm1, l0, l1, l2, l3, l4, l5, l6, l7, l8, l9, l10, l11, l12, l13, l14, l15, l16, l17, l18, l19, l20, l21, l22, l23, l24, l25, l27, l31, l32, l40, l46, l48, l50, l57, l59, l63, l86, l96, l97, l100, l110, l114, l122, l127, l200, l255, l300, l319, l320, l340, l441, l456, l580, l600, l800, l886, l1206, l1526, J_add, J_sub, J_mul, J_neg, J_lt, J_le, J_eq, jT, jF, iT, iF, eT, eF, aT, aF, ite_true, ite_false, ite_not, bs, bI, cond_true, zb1]
        rfl
      · rw [decide_eq_false hq2]
        simp (disch := omega) only [m_X0_hasPlace, j_X0_hasPlace_28, rc_ok H.tag, H.lengthOf hvv, e1, lm8, lm2, lm1, l0, l1, l2, l3, l4, l5, l6, l7, l8, l9, l10, l11, l12, l13, l14, l15, l16, l17, l18, l19, l20, l21, l22, l23, l24, l25, l27, l31, l32, l40, l46, l48, l50, l57, l59, l63, l86, l96, l97, l100, l110, l114, l122, l127, l200, l255, l300, l319, l320, l340, l441, l456, l580, l600, l800, l886, l1206, l1526, J_add, J_sub, J_mul, J_neg, J_lt, J_le, J_eq, jT, jF, iT, iF, eT, eF, aT, aF, ite_true, ite_false, ite_not, bs, bI, cond_true, zb0]
        rfl
theorem CA.wordNumberAt (H : CA h o T) {d v q : Int} (hv : vvT T d v) (h5 : -2147483648 ≤ q) (h6 : q < 2147483648) : m_X0_wordNumberAt o (J d) (J v) (J q) h = some (J (if 0 ≤ q ∧ q < lnT T d v then wdT T (rwT T d v q) else -1)) := by
  have hb := H.wf.vb hv
  have e1 := H.hasPlace (d := d) (v := v) (q := q) (by omega) (by omega) (by omega) (by omega) h5 h6
  rw [vbT_T hv, Bool.true_and] at e1
  by_cases hq : 0 ≤ q ∧ q < lnT T d v
  · rw [decide_eq_true hq.1, decide_eq_true hq.2] at e1
    have hp : ppT T d v q := ⟨hv, hq.1, hq.2⟩
    rw [if_pos hq]
    simp (disch := omega) only [m_X0_wordNumberAt, j_X0_wordNumberAt_24, rc_ok H.tag, e1, Bool.true_and, H.spellingAt hp, X5_wordNumber_ok (H.wf.wd hp), lm8, lm2, lm1, l0, l1, l2, l3, l4, l5, l6, l7, l8, l9, l10, l11, l12, l13, l14, l15, l16, l17, l18, l19, l20, l21, l22, l23, l24, l25, l27, l31, l32, l40, l46, l48, l50, l57, l59, l63, l86, l96, l97, l100, l110, l114, l122, l127, l200, l255, l300, l319, l320, l340, l441, l456, l580, l600, l800, l886, l1206, l1526, J_add, J_sub, J_mul, J_neg, J_lt, J_le, J_eq, jT, jF, iT, iF, eT, eF, aT, aF, ite_true, ite_false, ite_not, bs, bI, cond_true]
  · have e2 : (decide (0 ≤ q) && decide (q < lnT T d v)) = false := by
      rw [← Bool.not_eq_true, Bool.and_eq_true, decide_eq_true_eq, decide_eq_true_eq]
      exact hq
    rw [e2] at e1
    rw [if_neg hq]
    simp (disch := omega) only [m_X0_wordNumberAt, j_X0_wordNumberAt_24, rc_ok H.tag, e1, lm8, lm2, lm1, l0, l1, l2, l3, l4, l5, l6, l7, l8, l9, l10, l11, l12, l13, l14, l15, l16, l17, l18, l19, l20, l21, l22, l23, l24, l25, l27, l31, l32, l40, l46, l48, l50, l57, l59, l63, l86, l96, l97, l100, l110, l114, l122, l127, l200, l255, l300, l319, l320, l340, l441, l456, l580, l600, l800, l886, l1206, l1526, J_add, J_sub, J_mul, J_neg, J_lt, J_le, J_eq, jT, jF, iT, iF, eT, eF, aT, aF, ite_true, ite_false, ite_not, bs, bI, cond_false]
theorem tiT_rg (W : AW T) {d v w : Int} (hv : vvT T d v) : 0 ≤ tiT T d v w ∧ tiT T d v w ≤ 20 := by
  have hl := W.ln hv
  have := sumZ_nonneg (n := lnT T d v) (c := 1) (f := fun q => b01 (decide (wdT T (rwT T d v q) = w))) hl.1 (fun q _ _ => b01_rg _)
  unfold tiT
  omega
theorem CA.timesIn (H : CA h o T) {d v w : Int} (hv : vvT T d v) (hw : wrg w) : m_X2_timesIn o (J (wide w)) (J d) (J v) h = some (J (tiT T d v w)) := by
  have hb := H.wf.vb hv
  have hl := H.wf.ln hv
  have hr := wide_rg hw.1 hw.2.1
  unfold m_X2_timesIn l_X2_timesIn_6 tiT
  refine loop_int (fun i => (J (sumZ i (fun q => b01 (decide (wdT T (rwT T d v q) = w)))), J i)) (lnT T d v) hl.1 (by omega) rfl (fun k i hi hi2 => ?_) (fun k => ?_)
  · have hp : ppT T d v i := ⟨hv, hi, hi2⟩
    have q1 := H.wf.wd hp
    have q2 := wide_rg q1.1 q1.2.1
    rw [sumZ_succ hi]
    simp (disch := omega) only [b_X2_timesIn_6, j_X2_timesIn_36, rc_ok H.tag, H.lengthOf hv, H.spellingAt hp, lm8, lm2, lm1, l0, l1, l2, l3, l4, l5, l6, l7, l8, l9, l10, l11, l12, l13, l14, l15, l16, l17, l18, l19, l20, l21, l22, l23, l24, l25, l27, l31, l32, l40, l46, l48, l50, l57, l59, l63, l86, l96, l97, l100, l110, l114, l122, l127, l200, l255, l300, l319, l320, l340, l441, l456, l580, l600, l800, l886, l1206, l1526, J_add, J_sub, J_mul, J_neg, J_lt, J_le, J_eq, jT, jF, iT, iF, eT, eF, aT, aF, ite_true, ite_false, ite_not, bs, wide_eq q1 hw, ib10]
  · simp (disch := omega) only [b_X2_timesIn_6, rc_ok H.tag, H.lengthOf hv, lm8, lm2, lm1, l0, l1, l2, l3, l4, l5, l6, l7, l8, l9, l10, l11, l12, l13, l14, l15, l16, l17, l18, l19, l20, l21, l22, l23, l24, l25, l27, l31, l32, l40, l46, l48, l50, l57, l59, l63, l86, l96, l97, l100, l110, l114, l122, l127, l200, l255, l300, l319, l320, l340, l441, l456, l580, l600, l800, l886, l1206, l1526, J_add, J_sub, J_mul, J_neg, J_lt, J_le, J_eq, jT, jF, iT, iF, eT, eF, aT, aF, ite_true, ite_false, ite_not, bs]
theorem RM.timesIn (H : RM h o T) {d v w : Int} (hv : vvT T d v) (h1 : -2147483648 ≤ w) (h2 : w < 2147483648) : m_X12_timesIn o (J d) (J v) (J w) h = some (J (tiT T d v w)) := by
  have hb := H.wf.vb hv
  have hl := H.wf.ln hv
  unfold m_X12_timesIn l_X12_timesIn_6 tiT
  refine loop_int (fun i => (J (sumZ i (fun q => b01 (decide (wdT T (rwT T d v q) = w)))), J i)) (lnT T d v) hl.1 (by omega) rfl (fun k i hi hi2 => ?_) (fun k => ?_)
  · have hp : ppT T d v i := ⟨hv, hi, hi2⟩
    have q1 := H.wf.wd hp
    rw [sumZ_succ hi]
    simp (disch := omega) only [b_X12_timesIn_6, j_X12_timesIn_36, rc_ok H.tag, H.longOf, H.wordAt hp, lm8, lm2, lm1, l0, l1, l2, l3, l4, l5, l6, l7, l8, l9, l10, l11, l12, l13, l14, l15, l16, l17, l18, l19, l20, l21, l22, l23, l24, l25, l27, l31, l32, l40, l46, l48, l50, l57, l59, l63, l86, l96, l97, l100, l110, l114, l122, l127, l200, l255, l300, l319, l320, l340, l441, l456, l580, l600, l800, l886, l1206, l1526, J_add, J_sub, J_mul, J_neg, J_lt, J_le, J_eq, jT, jF, iT, iF, eT, eF, aT, aF, ite_true, ite_false, ite_not, bs, ib10]
  · simp (disch := omega) only [b_X12_timesIn_6, rc_ok H.tag, H.longOf, lm8, lm2, lm1, l0, l1, l2, l3, l4, l5, l6, l7, l8, l9, l10, l11, l12, l13, l14, l15, l16, l17, l18, l19, l20, l21, l22, l23, l24, l25, l27, l31, l32, l40, l46, l48, l50, l57, l59, l63, l86, l96, l97, l100, l110, l114, l122, l127, l200, l255, l300, l319, l320, l340, l441, l456, l580, l600, l800, l886, l1206, l1526, J_add, J_sub, J_mul, J_neg, J_lt, J_le, J_eq, jT, jF, iT, iF, eT, eF, aT, aF, ite_true, ite_false, ite_not, bs]
theorem CA.dateOf (H : CA h o T) (D : DA h o T) {d v : Int} (hv : vvT T d v) : m_X0_dateOf o (J d) (J v) h = some (J (dtT T d v)) := by
  have hb := H.wf.vb hv
  rw [X0_dateOf_at H.1 (by omega) (by omega), atE_in (by omega) (by omega), D.2 d v hv]
theorem CA.documentOfDate (H : CA h o T) (D : DA h o T) {x : Nat} {t : Int} (h1 : -2147483648 ≤ t) (h2 : t < 2147483648) : m_X2_documentOfDate x o (J t) h = some (J (ddT2 T t)) := by
  have h0 := H.wf.n0
  have hn := nvT_rg H.wf
  have inner : ∀ (d : Int) (K : Option Int32), 0 ≤ d → d < T 0 → l_X2_documentOfDate_13 o (J t) (J d) h K (J 0) = if anyZ (T (1 + d)) (fun v => decide (dtT T d v = t)) = true then some (J d) else K := by
    intro d K hd hd2
    have hc := H.wf.nv hd (by omega)
    rw [← fiZ_any]
    unfold l_X2_documentOfDate_13
    refine loop_find (fun i => J i) (T (1 + d)) (fun v => decide (dtT T d v = t)) (fun i => if decide (0 ≤ i) = true then some (J d) else K) hc.1 (by omega) rfl (fun k i hi hi2 hp => ?_) (fun k i hi hi2 hp => ?_) (fun k => ?_)
    · have hv : vvT T d i := ⟨hd, hd2, hi, hi2⟩
      have hdw := D.1 d i hv
      have hp2 : ¬ dtT T d i = t := by simpa using hp
      simp (disch := omega) only [b_X2_documentOfDate_13, rc_ok H.tag, H.versionsOf, H.dateOf D hv, lm8, lm2, lm1, l0, l1, l2, l3, l4, l5, l6, l7, l8, l9, l10, l11, l12, l13, l14, l15, l16, l17, l18, l19, l20, l21, l22, l23, l24, l25, l27, l31, l32, l40, l46, l48, l50, l57, l59, l63, l86, l96, l97, l100, l110, l114, l122, l127, l200, l255, l300, l319, l320, l340, l441, l456, l580, l600, l800, l886, l1206, l1526, J_add, J_sub, J_mul, J_neg, J_lt, J_le, J_eq, jT, jF, iT, iF, eT, eF, aT, aF, ite_true, ite_false, ite_not, bs]
    · have hv : vvT T d i := ⟨hd, hd2, hi, hi2⟩
      have hdw := D.1 d i hv
      have hp2 : dtT T d i = t := by simpa using hp
      rw [if_pos (decide_eq_true hi)]
      simp (disch := omega) only [b_X2_documentOfDate_13, rc_ok H.tag, H.versionsOf, H.dateOf D hv, lm8, lm2, lm1, l0, l1, l2, l3, l4, l5, l6, l7, l8, l9, l10, l11, l12, l13, l14, l15, l16, l17, l18, l19, l20, l21, l22, l23, l24, l25, l27, l31, l32, l40, l46, l48, l50, l57, l59, l63, l86, l96, l97, l100, l110, l114, l122, l127, l200, l255, l300, l319, l320, l340, l441, l456, l580, l600, l800, l886, l1206, l1526, J_add, J_sub, J_mul, J_neg, J_lt, J_le, J_eq, jT, jF, iT, iF, eT, eF, aT, aF, ite_true, ite_false, ite_not, bs]
    · rw [if_neg (by decide)]
      simp (disch := omega) only [b_X2_documentOfDate_13, rc_ok H.tag, H.versionsOf, lm8, lm2, lm1, l0, l1, l2, l3, l4, l5, l6, l7, l8, l9, l10, l11, l12, l13, l14, l15, l16, l17, l18, l19, l20, l21, l22, l23, l24, l25, l27, l31, l32, l40, l46, l48, l50, l57, l59, l63, l86, l96, l97, l100, l110, l114, l122, l127, l200, l255, l300, l319, l320, l340, l441, l456, l580, l600, l800, l886, l1206, l1526, J_add, J_sub, J_mul, J_neg, J_lt, J_le, J_eq, jT, jF, iT, iF, eT, eF, aT, aF, ite_true, ite_false, ite_not, bs]
  unfold m_X2_documentOfDate l_X2_documentOfDate_2 ddT2
  refine loop_find (fun i => J i) (T 0) (fun d => anyZ (T (1 + d)) (fun v => decide (dtT T d v = t))) (fun i => some (J i)) h0.1 (by omega) rfl (fun k i hi hi2 hp => ?_) (fun k i hi hi2 hp => ?_) (fun k => ?_)
  · have e := fun K => inner i K hi hi2
    rw [hp] at e
    simp (disch := omega) only [b_X2_documentOfDate_2, j_X2_documentOfDate_42, H.f0, lm8, lm2, lm1, l0, l1, l2, l3, l4, l5, l6, l7, l8, l9, l10, l11, l12, l13, l14, l15, l16, l17, l18, l19, l20, l21, l22, l23, l24, l25, l27, l31, l32, l40, l46, l48, l50, l57, l59, l63, l86, l96, l97, l100, l110, l114, l122, l127, l200, l255, l300, l319, l320, l340, l441, l456, l580, l600, l800, l886, l1206, l1526, J_add, J_sub, J_mul, J_neg, J_lt, J_le, J_eq, jT, jF, iT, iF, eT, eF, aT, aF, ite_true, ite_false, ite_not, bs, e]
    rfl
  · have e := fun K => inner i K hi hi2
    rw [hp] at e
    simp (disch := omega) only [b_X2_documentOfDate_2, j_X2_documentOfDate_42, H.f0, lm8, lm2, lm1, l0, l1, l2, l3, l4, l5, l6, l7, l8, l9, l10, l11, l12, l13, l14, l15, l16, l17, l18, l19, l20, l21, l22, l23, l24, l25, l27, l31, l32, l40, l46, l48, l50, l57, l59, l63, l86, l96, l97, l100, l110, l114, l122, l127, l200, l255, l300, l319, l320, l340, l441, l456, l580, l600, l800, l886, l1206, l1526, J_add, J_sub, J_mul, J_neg, J_lt, J_le, J_eq, jT, jF, iT, iF, eT, eF, aT, aF, ite_true, ite_false, ite_not, bs, e]
  · simp (disch := omega) only [b_X2_documentOfDate_2, H.f0, lm8, lm2, lm1, l0, l1, l2, l3, l4, l5, l6, l7, l8, l9, l10, l11, l12, l13, l14, l15, l16, l17, l18, l19, l20, l21, l22, l23, l24, l25, l27, l31, l32, l40, l46, l48, l50, l57, l59, l63, l86, l96, l97, l100, l110, l114, l122, l127, l200, l255, l300, l319, l320, l340, l441, l456, l580, l600, l800, l886, l1206, l1526, J_add, J_sub, J_mul, J_neg, J_lt, J_le, J_eq, jT, jF, iT, iF, eT, eF, aT, aF, ite_true, ite_false, ite_not, bs]
theorem dd_math (W : AW T) (t : Int) : (if fiZ 40 (fun i => vbT T (i / 10) (i % 10) && decide (T (6 + i) = t)) = -1 then -1 else fiZ 40 (fun i => vbT T (i / 10) (i % 10) && decide (T (6 + i) = t)) / 10) = ddT2 T t := by
  have h0 := W.n0
  have key : ∀ d v, vvT T d v → (vbT T ((10 * d + v) / 10) ((10 * d + v) % 10) && decide (T (6 + (10 * d + v)) = t)) = decide (dtT T d v = t) := by
    intro d v hv
    have hb := W.vb hv
    rw [(d10 hb.2.2.1 hb.2.2.2).1, (d10 hb.2.2.1 hb.2.2.2).2, vbT_T hv, Bool.true_and]
    rfl
  rcases fiZ_spec 40 (fun i => vbT T (i / 10) (i % 10) && decide (T (6 + i) = t)) with ⟨e1, e2⟩ | ⟨e1, e2, e3, e4⟩
  · rw [if_pos e1]
    refine (fiZ_none (fun d d0 d1 => anyZ_F.mpr (fun v v0 v1 => ?_))).symm
    have hv : vvT T d v := ⟨d0, d1, v0, v1⟩
    have hb := W.vb hv
    rw [← key d v hv]
    exact e2 (10 * d + v) (by omega) (by omega)
  · rw [if_neg (by omega)]
    generalize fiZ 40 (fun i => vbT T (i / 10) (i % 10) && decide (T (6 + i) = t)) = i at *
    rw [Bool.and_eq_true] at e3
    have hv := vbT_iff.mp e3.1
    refine (fiZ_eq hv.1 hv.2.1 (anyZ_iff.mpr ⟨i % 10, hv.2.2.1, hv.2.2.2, ?_⟩) (fun d d0 d1 => anyZ_F.mpr (fun v v0 v1 => ?_))).symm
    · unfold dtT
      rw [show 10 * (i / 10) + i % 10 = i by omega]
      exact e3.2
    · have hw : vvT T d v := ⟨d0, Int.lt_trans d1 hv.2.1, v0, v1⟩
      have hb := W.vb hw
      rw [← key d v hw]
      exact e4 (10 * d + v) (by omega) (by omega)
theorem RM.datedLoop (H : RM h o T) (D : DW T) {t : Int} (h1 : -2147483648 ≤ t) (h2 : t < 2147483648) : l_X12_dated_17 o (J t) h (fun a2_3 => j_X12_dated_51 a2_3 h) (J 0) = some (J (ddT2 T t), h) := by
  have hn := nvT_rg H.wf
  rw [← dd_math H.wf]
  unfold l_X12_dated_17
  refine loop_find (fun i => J i) 40 (fun i => vbT T (i / 10) (i % 10) && decide (T (6 + i) = t)) (fun i => some (J (if i = -1 then -1 else i / 10), h)) (by omega) (by omega) rfl (fun k i hi hi2 hp => ?_) (fun k i hi hi2 hp => ?_) (fun k => ?_)
  · have e1 := H.isVer (d := i / 10) (v := i % 10) (by omega) (by omega) (by omega) (by omega)
    cases hv : vbT T (i / 10) (i % 10)
    · rw [hv] at e1
      simp (disch := omega) only [b_X12_dated_17, j_X12_dated_56, rc_ok H.tag, J_div, J_rem, e1, lm8, lm2, lm1, l0, l1, l2, l3, l4, l5, l6, l7, l8, l9, l10, l11, l12, l13, l14, l15, l16, l17, l18, l19, l20, l21, l22, l23, l24, l25, l27, l31, l32, l40, l46, l48, l50, l57, l59, l63, l86, l96, l97, l100, l110, l114, l122, l127, l200, l255, l300, l319, l320, l340, l441, l456, l580, l600, l800, l886, l1206, l1526, J_add, J_sub, J_mul, J_neg, J_lt, J_le, J_eq, jT, jF, iT, iF, eT, eF, aT, aF, ite_true, ite_false, ite_not, bs, bI, cond_false]
    · rw [hv] at e1
      rw [hv, Bool.true_and] at hp
      have hp2 : ¬ T (6 + i) = t := by simpa using hp
      have hdw := D _ _ (vbT_iff.mp hv)
      unfold dtT at hdw
      rw [show 10 * (i / 10) + i % 10 = i by omega] at hdw
      simp (disch := omega) only [b_X12_dated_17, j_X12_dated_56, rc_ok H.tag, J_div, J_rem, e1, H.1.r18, H.told, lm8, lm2, lm1, l0, l1, l2, l3, l4, l5, l6, l7, l8, l9, l10, l11, l12, l13, l14, l15, l16, l17, l18, l19, l20, l21, l22, l23, l24, l25, l27, l31, l32, l40, l46, l48, l50, l57, l59, l63, l86, l96, l97, l100, l110, l114, l122, l127, l200, l255, l300, l319, l320, l340, l441, l456, l580, l600, l800, l886, l1206, l1526, J_add, J_sub, J_mul, J_neg, J_lt, J_le, J_eq, jT, jF, iT, iF, eT, eF, aT, aF, ite_true, ite_false, ite_not, bs, bI, cond_true]
  · have e1 := H.isVer (d := i / 10) (v := i % 10) (by omega) (by omega) (by omega) (by omega)
    rw [Bool.and_eq_true] at hp
    rw [hp.1] at e1
    have hp2 : T (6 + i) = t := by simpa using hp.2
    have hdw := D _ _ (vbT_iff.mp hp.1)
    unfold dtT at hdw
    rw [show 10 * (i / 10) + i % 10 = i by omega] at hdw
    rw [if_neg (by omega)]
    simp (disch := omega) only [b_X12_dated_17, j_X12_dated_51, rc_ok H.tag, J_div, J_rem, e1, H.1.r18, H.told, lm8, lm2, lm1, l0, l1, l2, l3, l4, l5, l6, l7, l8, l9, l10, l11, l12, l13, l14, l15, l16, l17, l18, l19, l20, l21, l22, l23, l24, l25, l27, l31, l32, l40, l46, l48, l50, l57, l59, l63, l86, l96, l97, l100, l110, l114, l122, l127, l200, l255, l300, l319, l320, l340, l441, l456, l580, l600, l800, l886, l1206, l1526, J_add, J_sub, J_mul, J_neg, J_lt, J_le, J_eq, jT, jF, iT, iF, eT, eF, aT, aF, ite_true, ite_false, ite_not, bs, bI, cond_true]
  · simp (disch := omega) only [b_X12_dated_17, lm8, lm2, lm1, l0, l1, l2, l3, l4, l5, l6, l7, l8, l9, l10, l11, l12, l13, l14, l15, l16, l17, l18, l19, l20, l21, l22, l23, l24, l25, l27, l31, l32, l40, l46, l48, l50, l57, l59, l63, l86, l96, l97, l100, l110, l114, l122, l127, l200, l255, l300, l319, l320, l340, l441, l456, l580, l600, l800, l886, l1206, l1526, J_add, J_sub, J_mul, J_neg, J_lt, J_le, J_eq, jT, jF, iT, iF, eT, eF, aT, aF, ite_true, ite_false, ite_not, bs]
end LI
end Z55
