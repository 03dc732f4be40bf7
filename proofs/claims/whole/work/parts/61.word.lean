/-! PURE PART: what is asked of words, both sides -/
theorem lbI {α : Type} {m : Nat} {s : Int} (hm : m < 2 ^ 62) (h0 : 0 ≤ s) (h1 : s < 64) {_ : Decidable (lg_cmp ((lushrF (L m) (J s)) &&& (1 : Int64)) (1 : Int64) = J 0)} {x y : α} : (if lg_cmp ((lushrF (L m) (J s)) &&& (1 : Int64)) (1 : Int64) = J 0 then x else y) = bif bt m s then x else y := by
  have e : (lg_cmp ((lushrF (L m) (J s)) &&& (1 : Int64)) (1 : Int64) = J 0) = (bt m s = true) := lbit hm h0 h1
  cases hb : bt m s
  · exact if_neg (by rw [e, hb]; decide)
  · exact if_pos (by rw [e, hb])
section WQ
variable {h : Hp} {o : Nat} {T : Int → Int}
theorem wc_rg (W : AW T) : 0 ≤ wcT T ∧ wcT T ≤ 319 := by
  have h5 := W.n5
  have := (GWl_T W (n := (T 5).toNat) (by omega)).1
  unfold wcT
  omega
theorem wfT_wrg (W : AW T) {k : Int} (h0 : 0 ≤ k) (h1 : k < wcT T) : wrg (wfT T k) := wf_wrg W (by have := W.n5; omega) h0 h1
theorem CA.hasWord (H : CA h o T) (C : CW h o T) {k : Int} (h1 : -2147483648 ≤ k) (h2 : k < 2147483648) : m_X0_hasWord o (J k) h = some (J (b01 (decide (0 ≤ k) && decide (k < wcT T)))) := by
  have hw := wc_rg H.wf
  have e2 : gfI h o 1 2 = some (J (wcT T)) := by rw [H.1.f2, C.1]; rfl
  by_cases hk : k < 0
  · rw [decide_eq_false (show ¬ 0 ≤ k by omega), Bool.false_and]
    simp (disch := omega) only [m_X0_hasWord, j_X0_hasWord_17, lm8, lm2, lm1, l0, l1, l2, l3, l4, l5, l6, l7, l8, l9, l10, l11, l12, l13, l14, l15, l16, l17, l18, l19, l20, l21, l22, l23, l24, l25, l27, l31, l32, l40, l46, l48, l50, l57, l59, l63, l86, l96, l97, l100, l110, l114, l122, l127, l200, l255, l300, l319, l320, l340, l441, l456, l580, l600, l800, l886, l1206, l1526, J_add, J_sub, J_mul, J_neg, J_lt, J_le, J_eq, jT, jF, iT, iF, eT, eF, aT, aF, ite_true, ite_false, ite_not, bs, zb0]
    rfl
  · rw [decide_eq_true (show 0 ≤ k by omega), Bool.true_and]
    by_cases hk2 : k < wcT T
    · rw [decide_eq_true hk2]
      simp (disch := omega) only [m_X0_hasWord, j_X0_hasWord_17, e2, lm8, lm2, lm1, l0, l1, l2, l3, l4, l5, l6, l7, l8, l9, l10, l11, l12, l13, l14, l15, l16, l17, l18, l19, l20, l21, l22, l23, l24, l25, l27, l31, l32, l40, l46, l48, l50, l57, l59, l63, l86, l96, l97, l100, l110, l114, l122, l127, l200, l255, l300, l319, l320, l340, l441, l456, l580, l600, l800, l886, l1206, l1526, J_add, J_sub, J_mul, J_neg, J_lt, J_le, J_eq, jT, jF, iT, iF, eT, eF, aT, aF, ite_true, ite_false, ite_not, bs, zb1]
      rfl
    · rw [decide_eq_false hk2]
      simp (disch := omega) only [m_X0_hasWord, j_X0_hasWord_17, e2, lm8, lm2, lm1, l0, l1, l2, l3, l4, l5, l6, l7, l8, l9, l10, l11, l12, l13, l14, l15, l16, l17, l18, l19, l20, l21, l22, l23, l24, l25, l27, l31, l32, l40, l46, l48, l50, l57, l59, l63, l86, l96, l97, l100, l110, l114, l122, l127, l200, l255, l300, l319, l320, l340, l441, l456, l580, l600, l800, l886, l1206, l1526, J_add, J_sub, J_mul, J_neg, J_lt, J_le, J_eq, jT, jF, iT, iF, eT, eF, aT, aF, ite_true, ite_false, ite_not, bs, zb0]
      rfl
theorem CA.slotsOfWord (H : CA h o T) (C : CW h o T) {k : Int} (h0 : 0 ≤ k) (h1 : k < wcT T) : m_X0_slotsOfWord o (J k) h = some (L (slT T (wfT T k))) := by
  have hw := wc_rg H.wf
  have e := (C.2 k h0 h1).2
  have e2 : hL h (o + 9) k = L (slT T (wfT T k)) := e
  simp (disch := omega) only [m_X0_slotsOfWord, j_X0_slotsOfWord_22, j_X0_slotsOfWord_23, H.1.r11, alenJ_ok H.1.a11, alJ_ok H.1.a11, e2, lm8, lm2, lm1, l0, l1, l2, l3, l4, l5, l6, l7, l8, l9, l10, l11, l12, l13, l14, l15, l16, l17, l18, l19, l20, l21, l22, l23, l24, l25, l27, l31, l32, l40, l46, l48, l50, l57, l59, l63, l86, l96, l97, l100, l110, l114, l122, l127, l200, l255, l300, l319, l320, l340, l441, l456, l580, l600, l800, l886, l1206, l1526, J_add, J_sub, J_mul, J_neg, J_lt, J_le, J_eq, jT, jF, iT, iF, eT, eF, aT, aF, ite_true, ite_false, ite_not, bs]
theorem CA.wordAt (H : CA h o T) (C : CW h o T) {k : Int} (h0 : 0 ≤ k) (h1 : k < wcT T) : m_X0_wordAt o (J k) h = some (J (wide (wfT T k))) := by
  have hw := wc_rg H.wf
  have e : hE h (o + 8) k = wide (wfT T k) := (C.2 k h0 h1).1
  rw [X0_wordAt_at H.1 (by omega) (by omega), atE_in h0 (by omega), e]
/-- how often in a version, by its slot -/
def niT (T : Int → Int) (w i : Int) : Int := if vbT T (i / 10) (i % 10) = true then tiT T (i / 10) (i % 10) w else 0
theorem ni_rg (W : AW T) {w i : Int} : 0 ≤ niT T w i ∧ niT T w i ≤ 20 := by
  unfold niT
  split
  next hv => exact tiT_rg W (vbT_iff.mp hv)
  next => omega
theorem ni_bit (W : AW T) {w i : Int} (h0 : 0 ≤ i) (h1 : i < 40) : decide (0 < niT T w i) = bt (slT T w) i := by
  rw [sl_bit W h0 h1]
  unfold niT
  cases vbT T (i / 10) (i % 10)
  · rfl
  · rfl
theorem pc_sum (W : AW T) {w : Int} : pcN (slT T w) = sumZ 40 (fun i => b01 (bt (slT T w) i)) := by
  unfold pcN sumZ
  refine sumN_congr (fun i hi => ?_)
  show b01 ((slT T w).testBit i) = b01 (decide ((0 : Int) ≤ (i : Int)) && (slT T w).testBit (i : Int).toNat)
  rw [decide_eq_true (by omega), Bool.true_and]
  rfl
/-- documents, as bits -/
def dcN (m : Nat) : Nat → Nat
  | 0 => 0
  | n + 1 => if bt m n = true then dcN m n ||| 2 ^ (n / 10) else dcN m n
theorem dcN_lt (m : Nat) : ∀ n, n ≤ 40 → dcN m n < 16 := by
  intro n
  induction n with
  | zero => intro _; show 0 < 16; decide
  | succ n ih =>
    intro hn
    show (if bt m n = true then dcN m n ||| 2 ^ (n / 10) else dcN m n) < 16
    split
    · exact Nat.or_lt_two_pow (n := 4) (ih (by omega)) (Nat.pow_lt_pow_right (by decide) (by omega))
    · exact ih (by omega)
def dcZ (m : Nat) (n : Int) : Nat := dcN m n.toNat
theorem dcZ_succ {m : Nat} {n : Int} (h : 0 ≤ n) : dcZ m (n + 1) = if bt m n = true then dcZ m n ||| 2 ^ (n / 10).toNat else dcZ m n := by
  unfold dcZ
  rw [show (n + 1).toNat = n.toNat + 1 by omega]
  show (if bt m (n.toNat : Int) = true then dcN m n.toNat ||| 2 ^ (n.toNat / 10) else _) = _
  rw [Int.toNat_of_nonneg h, show n.toNat / 10 = (n / 10).toNat by omega]
theorem dcZ_or {m : Nat} {i : Int} (h0 : 0 ≤ i) (h1 : i < 40) : J (dcZ m i : Nat) ||| ishlF (J 1) (J (i / 10)) = J ((dcZ m i ||| 2 ^ (i / 10).toNat : Nat)) := by
  have := or_tab (i / 10).toNat (by omega) (dcZ m i) (Nat.lt_trans (dcN_lt m i.toNat (by omega)) (by decide))
  rw [Int.toNat_of_nonneg (by omega)] at this
  exact this
/-- the first date, -1: none -/
def mdN (T : Int → Int) (m : Nat) : Nat → Int
  | 0 => -1
  | n + 1 => if bt m n = true then (if mdN T m n = -1 ∨ T (6 + n) < mdN T m n then T (6 + n) else mdN T m n) else mdN T m n
def mdZ (T : Int → Int) (m : Nat) (n : Int) : Int := mdN T m n.toNat
theorem mdZ_succ {m : Nat} {n : Int} (h : 0 ≤ n) : mdZ T m (n + 1) = if bt m n = true then (if mdZ T m n = -1 ∨ T (6 + n) < mdZ T m n then T (6 + n) else mdZ T m n) else mdZ T m n := by
  unfold mdZ
  rw [show (n + 1).toNat = n.toNat + 1 by omega]
  show (if bt m (n.toNat : Int) = true then (if mdN T m n.toNat = -1 ∨ T (6 + (n.toNat : Int)) < mdN T m n.toNat then T (6 + (n.toNat : Int)) else mdN T m n.toNat) else _) = _
  rw [Int.toNat_of_nonneg h]
theorem dt_at (D : DW T) {i : Int} (hv : vvT T (i / 10) (i % 10)) : 0 ≤ T (6 + i) ∧ T (6 + i) < nvT T := by
  have := D _ _ hv
  unfold dtT at this
  rw [show 10 * (i / 10) + i % 10 = i by omega] at this
  exact this
theorem md_rg (W : AW T) (D : DW T) {w : Int} : ∀ n : Nat, n ≤ 40 → -1 ≤ mdN T (slT T w) n ∧ mdN T (slT T w) n < 40 := by
  intro n
  have hv0 := nvT_rg W
  induction n with
  | zero => intro _; show -1 ≤ (-1 : Int) ∧ (-1 : Int) < 40; omega
  | succ n ih =>
    intro hn
    have h1 := ih (by omega)
    show -1 ≤ (if bt (slT T w) n = true then (if mdN T (slT T w) n = -1 ∨ T (6 + n) < mdN T (slT T w) n then T (6 + n) else mdN T (slT T w) n) else mdN T (slT T w) n) ∧ (if bt (slT T w) n = true then (if mdN T (slT T w) n = -1 ∨ T (6 + n) < mdN T (slT T w) n then T (6 + n) else mdN T (slT T w) n) else mdN T (slT T w) n) < 40
    by_cases hb : bt (slT T w) (n : Int) = true
    · rw [if_pos hb]
      rw [sl_bit W (by omega) (by omega), Bool.and_eq_true] at hb
      have := dt_at D (vbT_iff.mp hb.1)
      split <;> omega
    · rw [if_neg hb]
      exact h1
theorem md_some (W : AW T) (D : DW T) {k : Int} (h0 : 0 ≤ k) (h1 : k < wcT T) : mdZ T (slT T (wfT T k)) 40 ≠ -1 := by
  have h5 := W.n5
  have hv0 := nvT_rg W
  have key : ∀ (w : Int) (n : Nat), n ≤ 40 → (∃ i : Nat, i < n ∧ bt (slT T w) i = true) → mdN T (slT T w) n ≠ -1 := by
    intro w n
    induction n with
    | zero => rintro _ ⟨i, hi, _⟩; omega
    | succ n ih =>
      rintro hn ⟨i, hi, hb⟩
      show (if bt (slT T w) n = true then (if mdN T (slT T w) n = -1 ∨ T (6 + n) < mdN T (slT T w) n then T (6 + n) else mdN T (slT T w) n) else mdN T (slT T w) n) ≠ -1
      by_cases hbn : bt (slT T w) (n : Int) = true
      · rw [if_pos hbn]
        rw [sl_bit W (by omega) (by omega), Bool.and_eq_true] at hbn
        have := dt_at D (vbT_iff.mp hbn.1)
        split <;> omega
      · rw [if_neg hbn]
        have hin : i ≠ n := fun q => hbn (by rw [← q]; exact hb)
        exact ih (by omega) ⟨i, by omega, hb⟩
  obtain ⟨t, ht, e⟩ := (GWl_T W (n := (T 5).toNat) (by omega)).2.1 k h0 h1
  have ho := W.2.2.2.2.2.2.2 t (by omega) (by omega)
  obtain ⟨v, hv, hi⟩ := ho.2.2.2.2.2
  have hb := W.vb hv
  obtain ⟨q, q0, q1, q2⟩ := inV_iff.mp hi
  refine key (wfT T k) 40 (Nat.le_refl 40) ⟨(10 * owT T t + v).toNat, by omega, ?_⟩
  rw [Int.toNat_of_nonneg (by omega), sl_bit W (by omega) (by omega), (d10 hb.2.2.1 hb.2.2.2).1, (d10 hb.2.2.1 hb.2.2.2).2, vbT_T hv, Bool.true_and, decide_eq_true_eq]
  exact ti_pos.mpr ⟨q, q0, q1, by rw [q2]; exact e.symm⟩
/-- the greatest number of times in a version -/
def spT (T : Int → Int) (w : Int) : Int := mxZ (T 0) (fun d => mxZ (T (1 + d)) (fun v => tiT T d v w))
theorem sp_eq (W : AW T) {w : Int} : mxZ 40 (fun i => niT T w i) = spT T w := by
  have h0 := W.n0
  refine Int.le_antisymm (mxZ_le mxZ_nn (fun i i0 i1 => ?_)) ?_
  · unfold niT
    split
    next hv =>
      have hvv := vbT_iff.mp hv
      exact Int.le_trans (mxZ_ge (f := fun v => tiT T (i / 10) v w) hvv.2.2.1 hvv.2.2.2) (mxZ_ge (f := fun d => mxZ (T (1 + d)) (fun v => tiT T d v w)) hvv.1 hvv.2.1)
    next => exact mxZ_nn
  · unfold spT
    refine mxZ_le mxZ_nn (fun d d0 d1 => mxZ_le mxZ_nn (fun v v0 v1 => ?_))
    have hv : vvT T d v := ⟨d0, d1, v0, v1⟩
    have hb := W.vb hv
    have := mxZ_ge (n := 40) (i := 10 * d + v) (f := fun i => niT T w i) (by omega) (by omega)
    refine Int.le_trans ?_ this
    show tiT T d v w ≤ niT T w (10 * d + v)
    unfold niT
    rw [(d10 hb.2.2.1 hb.2.2.2).1, (d10 hb.2.2.1 hb.2.2.2).2, if_pos (vbT_T hv)]
    exact Int.le_refl _
theorem CA.documentsOfWord (H : CA h o T) (C : CW h o T) {x : Nat} {k : Int} (h0 : 0 ≤ k) (h1 : k < wcT T) : m_X2_documentsOfWord x o (J k) h = some (J (dcZ (slT T (wfT T k)) 40 : Nat)) := by
  have hw := wc_rg H.wf
  have hs := slT_lt H.wf (wfT T k)
  unfold m_X2_documentsOfWord l_X2_documentsOfWord_5
  refine loop_int (fun i => (J (dcZ (slT T (wfT T k)) i : Nat), J i)) 40 (by omega) (by omega) rfl (fun k_ i hi hi2 => ?_) (fun k_ => ?_)
  · have hs2 : slT T (wfT T k) < 2 ^ 62 := Nat.lt_trans hs (by decide)
    have hi3 : i < 64 := by omega
    have eo := dcZ_or (m := slT T (wfT T k)) hi hi2
    rw [dcZ_succ hi]
    cases hb : bt (slT T (wfT T k)) i
    · rw [if_neg (by decide)]
      simp (disch := omega) only [b_X2_documentsOfWord_5, j_X2_documentsOfWord_37, rc_ok H.tag, H.slotsOfWord C h0 h1, lbI hs2 hi hi3, hb, cond_false, J_div, lm8, lm2, lm1, l0, l1, l2, l3, l4, l5, l6, l7, l8, l9, l10, l11, l12, l13, l14, l15, l16, l17, l18, l19, l20, l21, l22, l23, l24, l25, l27, l31, l32, l40, l46, l48, l50, l57, l59, l63, l86, l96, l97, l100, l110, l114, l122, l127, l200, l255, l300, l319, l320, l340, l441, l456, l580, l600, l800, l886, l1206, l1526, J_add, J_sub, J_mul, J_neg, J_lt, J_le, J_eq, jT, jF, iT, iF, eT, eF, aT, aF, ite_true, ite_false, ite_not, bs]
    · rw [if_pos rfl]
      simp (disch := omega) only [b_X2_documentsOfWord_5, j_X2_documentsOfWord_37, rc_ok H.tag, H.slotsOfWord C h0 h1, lbI hs2 hi hi3, hb, cond_true, J_div, lm8, lm2, lm1, l0, l1, l2, l3, l4, l5, l6, l7, l8, l9, l10, l11, l12, l13, l14, l15, l16, l17, l18, l19, l20, l21, l22, l23, l24, l25, l27, l31, l32, l40, l46, l48, l50, l57, l59, l63, l86, l96, l97, l100, l110, l114, l122, l127, l200, l255, l300, l319, l320, l340, l441, l456, l580, l600, l800, l886, l1206, l1526, J_add, J_sub, J_mul, J_neg, J_lt, J_le, J_eq, jT, jF, iT, iF, eT, eF, aT, aF, ite_true, ite_false, ite_not, bs]
      rw [eo]
  · simp (disch := omega) only [b_X2_documentsOfWord_5, lm8, lm2, lm1, l0, l1, l2, l3, l4, l5, l6, l7, l8, l9, l10, l11, l12, l13, l14, l15, l16, l17, l18, l19, l20, l21, l22, l23, l24, l25, l27, l31, l32, l40, l46, l48, l50, l57, l59, l63, l86, l96, l97, l100, l110, l114, l122, l127, l200, l255, l300, l319, l320, l340, l441, l456, l580, l600, l800, l886, l1206, l1526, J_add, J_sub, J_mul, J_neg, J_lt, J_le, J_eq, jT, jF, iT, iF, eT, eF, aT, aF, ite_true, ite_false, ite_not, bs]
theorem CA.firstDateOfWord (H : CA h o T) (D : DA h o T) (C : CW h o T) {x : Nat} {k : Int} (h0 : 0 ≤ k) (h1 : k < wcT T) : m_X2_firstDateOfWord x o (J k) h = some (J (mdZ T (slT T (wfT T k)) 40)) := by
  have hw := wc_rg H.wf
  have hs := slT_lt H.wf (wfT T k)
  have hv0 := nvT_rg H.wf
  unfold m_X2_firstDateOfWord l_X2_firstDateOfWord_5
  refine loop_int (fun i => (J (mdZ T (slT T (wfT T k)) i), J i)) 40 (by omega) (by omega) rfl (fun k_ i hi hi2 => ?_) (fun k_ => ?_)
  · have hs2 : slT T (wfT T k) < 2 ^ 62 := Nat.lt_trans hs (by decide)
    have hi3 : i < 64 := by omega
    have hmr := md_rg H.wf D.1 (w := wfT T k) i.toNat (by omega)
    have hmr2 : -1 ≤ mdZ T (slT T (wfT T k)) i ∧ mdZ T (slT T (wfT T k)) i < 40 := hmr
    have ed : m_X5_at (o + 2) (J i) h = some (J (hE h (o + 2) i)) := by rw [X5_at_ok H.1.a4 (by omega) (by omega) (by omega), atE_in hi (by omega)]
    have edr := hE_rg h (o + 2) i
    rw [mdZ_succ hi]
    cases hb : bt (slT T (wfT T k)) i
    · rw [if_neg (by decide)]
      simp (disch := omega) only [b_X2_firstDateOfWord_5, j_X2_firstDateOfWord_52, rc_ok H.tag, H.1.r4, ed, H.slotsOfWord C h0 h1, lbI hs2 hi hi3, hb, cond_false, lm8, lm2, lm1, l0, l1, l2, l3, l4, l5, l6, l7, l8, l9, l10, l11, l12, l13, l14, l15, l16, l17, l18, l19, l20, l21, l22, l23, l24, l25, l27, l31, l32, l40, l46, l48, l50, l57, l59, l63, l86, l96, l97, l100, l110, l114, l122, l127, l200, l255, l300, l319, l320, l340, l441, l456, l580, l600, l800, l886, l1206, l1526, J_add, J_sub, J_mul, J_neg, J_lt, J_le, J_eq, jT, jF, iT, iF, eT, eF, aT, aF, ite_true, ite_false, ite_not, bs]
    · rw [if_pos rfl]
      have hb2 := hb
      rw [sl_bit H.wf hi hi2, Bool.and_eq_true] at hb2
      have hv := vbT_iff.mp hb2.1
      have hdt := dt_at D.1 hv
      have hdd := D.2 _ _ hv
      rw [show i / 10 * 10 + i % 10 = i by omega] at hdd
      unfold dtT at hdd
      rw [show 10 * (i / 10) + i % 10 = i by omega] at hdd
      rw [hdd] at ed
      by_cases hm1 : mdZ T (slT T (wfT T k)) i = -1
      · rw [if_pos (Or.inl hm1)]
        simp (disch := omega) only [b_X2_firstDateOfWord_5, j_X2_firstDateOfWord_52, j_X2_firstDateOfWord_49, rc_ok H.tag, H.1.r4, ed, H.slotsOfWord C h0 h1, lbI hs2 hi hi3, hb, cond_true, hm1, lm8, lm2, lm1, l0, l1, l2, l3, l4, l5, l6, l7, l8, l9, l10, l11, l12, l13, l14, l15, l16, l17, l18, l19, l20, l21, l22, l23, l24, l25, l27, l31, l32, l40, l46, l48, l50, l57, l59, l63, l86, l96, l97, l100, l110, l114, l122, l127, l200, l255, l300, l319, l320, l340, l441, l456, l580, l600, l800, l886, l1206, l1526, J_add, J_sub, J_mul, J_neg, J_lt, J_le, J_eq, jT, jF, iT, iF, eT, eF, aT, aF, ite_true, ite_false, ite_not, bs]
      · by_cases hlt : T (6 + i) < mdZ T (slT T (wfT T k)) i
        · rw [if_pos (Or.inr hlt)]
          simp (disch := omega) only [b_X2_firstDateOfWord_5, j_X2_firstDateOfWord_52, j_X2_firstDateOfWord_49, rc_ok H.tag, H.1.r4, ed, H.slotsOfWord C h0 h1, lbI hs2 hi hi3, hb, cond_true, lm8, lm2, lm1, l0, l1, l2, l3, l4, l5, l6, l7, l8, l9, l10, l11, l12, l13, l14, l15, l16, l17, l18, l19, l20, l21, l22, l23, l24, l25, l27, l31, l32, l40, l46, l48, l50, l57, l59, l63, l86, l96, l97, l100, l110, l114, l122, l127, l200, l255, l300, l319, l320, l340, l441, l456, l580, l600, l800, l886, l1206, l1526, J_add, J_sub, J_mul, J_neg, J_lt, J_le, J_eq, jT, jF, iT, iF, eT, eF, aT, aF, ite_true, ite_false, ite_not, bs]
        · rw [if_neg (by omega)]
          simp (disch := omega) only [b_X2_firstDateOfWord_5, j_X2_firstDateOfWord_52, j_X2_firstDateOfWord_49, rc_ok H.tag, H.1.r4, ed, H.slotsOfWord C h0 h1, lbI hs2 hi hi3, hb, cond_true, lm8, lm2, lm1, l0, l1, l2, l3, l4, l5, l6, l7, l8, l9, l10, l11, l12, l13, l14, l15, l16, l17, l18, l19, l20, l21, l22, l23, l24, l25, l27, l31, l32, l40, l46, l48, l50, l57, l59, l63, l86, l96, l97, l100, l110, l114, l122, l127, l200, l255, l300, l319, l320, l340, l441, l456, l580, l600, l800, l886, l1206, l1526, J_add, J_sub, J_mul, J_neg, J_lt, J_le, J_eq, jT, jF, iT, iF, eT, eF, aT, aF, ite_true, ite_false, ite_not, bs]
  · simp (disch := omega) only [b_X2_firstDateOfWord_5, lm8, lm2, lm1, l0, l1, l2, l3, l4, l5, l6, l7, l8, l9, l10, l11, l12, l13, l14, l15, l16, l17, l18, l19, l20, l21, l22, l23, l24, l25, l27, l31, l32, l40, l46, l48, l50, l57, l59, l63, l86, l96, l97, l100, l110, l114, l122, l127, l200, l255, l300, l319, l320, l340, l441, l456, l580, l600, l800, l886, l1206, l1526, J_add, J_sub, J_mul, J_neg, J_lt, J_le, J_eq, jT, jF, iT, iF, eT, eF, aT, aF, ite_true, ite_false, ite_not, bs]
theorem CA.spread (H : CA h o T) (C : CW h o T) {x : Nat} {k : Int} (h0 : 0 ≤ k) (h1 : k < wcT T) : m_X2_spread x o (J k) h = some (J (spT T (wfT T k))) := by
  have hn0 := H.wf.n0
  have hwr := wfT_wrg H.wf h0 h1
  have hin : ∀ d, 0 ≤ d → d < T 0 → mxZ (T (1 + d)) (fun v => tiT T d v (wfT T k)) ≤ 20 := fun d d0 d1 => mxZ_le (by omega) (fun v v0 v1 => (tiT_rg H.wf ⟨d0, d1, v0, v1⟩).2)
  have inner : ∀ (d : Int) (K : Int32 → Option Int32) (a : Int), 0 ≤ d → d < T 0 → 0 ≤ a → a ≤ 20 → l_X2_spread_17 o (J k) (J d) h K (J a) (J 0) = K (J (max a (mxZ (T (1 + d)) (fun v => tiT T d v (wfT T k))))) := by
    intro d K a hd hd2 a0 a1
    have hn := H.wf.nv hd (by omega)
    unfold l_X2_spread_17
    refine loop_int (fun i => (J (max a (mxZ i (fun v => tiT T d v (wfT T k)))), J i)) (T (1 + d)) hn.1 (by omega) (by rw [mxZ_0, show max a 0 = a by omega]) (fun k_ i hi hi2 => ?_) (fun k_ => ?_)
    · have hv : vvT T d i := ⟨hd, hd2, hi, hi2⟩
      have ht := tiT_rg H.wf hv (w := wfT T k)
      have hm0 : 0 ≤ mxZ i (fun v => tiT T d v (wfT T k)) := mxZ_nn
      have hm1 : mxZ i (fun v => tiT T d v (wfT T k)) ≤ 20 := mxZ_le (by omega) (fun v v0 v1 => (tiT_rg H.wf ⟨hd, hd2, v0, by omega⟩).2)
      rw [mxZ_succ hi]
      generalize mxZ i (fun v => tiT T d v (wfT T k)) = M at *
      simp (disch := omega) only [b_X2_spread_17, rc_ok H.tag, H.versionsOf, H.wordAt C h0 h1, H.timesIn hv hwr, J9_max_ok, lm8, lm2, lm1, l0, l1, l2, l3, l4, l5, l6, l7, l8, l9, l10, l11, l12, l13, l14, l15, l16, l17, l18, l19, l20, l21, l22, l23, l24, l25, l27, l31, l32, l40, l46, l48, l50, l57, l59, l63, l86, l96, l97, l100, l110, l114, l122, l127, l200, l255, l300, l319, l320, l340, l441, l456, l580, l600, l800, l886, l1206, l1526, J_add, J_sub, J_mul, J_neg, J_lt, J_le, J_eq, jT, jF, iT, iF, eT, eF, aT, aF, ite_true, ite_false, ite_not, bs]
      rw [show max (max a M) (tiT T d i (wfT T k)) = max a (max M (tiT T d i (wfT T k))) by omega]
    · simp (disch := omega) only [b_X2_spread_17, rc_ok H.tag, H.versionsOf, lm8, lm2, lm1, l0, l1, l2, l3, l4, l5, l6, l7, l8, l9, l10, l11, l12, l13, l14, l15, l16, l17, l18, l19, l20, l21, l22, l23, l24, l25, l27, l31, l32, l40, l46, l48, l50, l57, l59, l63, l86, l96, l97, l100, l110, l114, l122, l127, l200, l255, l300, l319, l320, l340, l441, l456, l580, l600, l800, l886, l1206, l1526, J_add, J_sub, J_mul, J_neg, J_lt, J_le, J_eq, jT, jF, iT, iF, eT, eF, aT, aF, ite_true, ite_false, ite_not, bs]
  unfold m_X2_spread l_X2_spread_5 spT
  refine loop_int (fun i => (J (mxZ i (fun d => mxZ (T (1 + d)) (fun v => tiT T d v (wfT T k)))), J i)) (T 0) hn0.1 (by omega) rfl (fun k_ i hi hi2 => ?_) (fun k_ => ?_)
  · have hm0 : 0 ≤ mxZ i (fun d => mxZ (T (1 + d)) (fun v => tiT T d v (wfT T k))) := mxZ_nn
    have hm1 : mxZ i (fun d => mxZ (T (1 + d)) (fun v => tiT T d v (wfT T k))) ≤ 20 := mxZ_le (by omega) (fun d d0 d1 => hin d d0 (by omega))
    have e := fun K => inner i K _ hi hi2 hm0 hm1
    rw [mxZ_succ hi]
    simp (disch := omega) only [b_X2_spread_5, j_X2_spread_52, H.f0, lm8, lm2, lm1, l0, l1, l2, l3, l4, l5, l6, l7, l8, l9, l10, l11, l12, l13, l14, l15, l16, l17, l18, l19, l20, l21, l22, l23, l24, l25, l27, l31, l32, l40, l46, l48, l50, l57, l59, l63, l86, l96, l97, l100, l110, l114, l122, l127, l200, l255, l300, l319, l320, l340, l441, l456, l580, l600, l800, l886, l1206, l1526, J_add, J_sub, J_mul, J_neg, J_lt, J_le, J_eq, jT, jF, iT, iF, eT, eF, aT, aF, ite_true, ite_false, ite_not, bs, e]
  · simp (disch := omega) only [b_X2_spread_5, H.f0, lm8, lm2, lm1, l0, l1, l2, l3, l4, l5, l6, l7, l8, l9, l10, l11, l12, l13, l14, l15, l16, l17, l18, l19, l20, l21, l22, l23, l24, l25, l27, l31, l32, l40, l46, l48, l50, l57, l59, l63, l86, l96, l97, l100, l110, l114, l122, l127, l200, l255, l300, l319, l320, l340, l441, l456, l580, l600, l800, l886, l1206, l1526, J_add, J_sub, J_mul, J_neg, J_lt, J_le, J_eq, jT, jF, iT, iF, eT, eF, aT, aF, ite_true, ite_false, ite_not, bs]
theorem RM.ofWord (H : RM h o T) (D : DW T) {w a : Int} (w0 : -2147483648 ≤ w) (w1 : w < 2147483648) (a0 : -2147483648 ≤ a) (a1 : a < 2147483648) : m_X12_ofWord o (J w) (J a) h = some (J (if a = 0 then w else if a = 1 then pcN (slT T w) else if a = 2 then (dcZ (slT T w) 40 : Nat) else if a = 3 then (if mdZ T (slT T w) 40 = -1 then 1000000 else mdZ T (slT T w) 40) else if a = 4 then spT T w else -1)) := by
  have hv0 := nvT_rg H.wf
  rw [pc_sum H.wf, ← sp_eq H.wf]
  unfold m_X12_ofWord l_X12_ofWord_16
  refine loop_int (fun i => (J (sumZ i (fun i => b01 (bt (slT T w) i))), J (dcZ (slT T w) i : Nat), J (if mdZ T (slT T w) i = -1 then 1000000 else mdZ T (slT T w) i), J (mxZ i (fun i => niT T w i)), J i)) 40 (by omega) (by omega) rfl (fun k i hi hi2 => ?_) (fun k => ?_)
  · have e1 := H.isVer (d := i / 10) (v := i % 10) (by omega) (by omega) (by omega) (by omega)
    have eo := dcZ_or (m := slT T w) hi hi2
    have hmr : -1 ≤ mdZ T (slT T w) i ∧ mdZ T (slT T w) i < 40 := md_rg H.wf D (w := w) i.toNat (by omega)
    have hn := ni_rg H.wf (w := w) (i := i)
    have hnb := ni_bit H.wf (w := w) hi hi2
    have hM0 : 0 ≤ mxZ i (fun i => niT T w i) := mxZ_nn
    have hM1 : mxZ i (fun i => niT T w i) ≤ 20 := mxZ_le (by omega) (fun j _ _ => (ni_rg H.wf).2)
    rw [sumZ_succ hi, dcZ_succ hi, mdZ_succ hi, mxZ_succ hi]
    generalize mxZ i (fun i => niT T w i) = M at *
    generalize sumZ i (fun i => b01 (bt (slT T w) i)) = S at *
    generalize hmd : mdZ T (slT T w) i = md at *
    generalize hdc : dcZ (slT T w) i = dc at *
    have e61 : ∀ (k2 : Int32 → Int32 → Int32 → Int32 → Int32 → Option Int32) (K2 : Int32 → Int32 → Int32 → Int32 → Option Int32), j_X12_ofWord_61 o (J w) (J a) (J S) (J (dc : Nat)) (J (if md = -1 then 1000000 else md)) (J M) (J i) (J (i / 10)) (J (niT T w i)) h K2 k2 = k2 (J (S + b01 (bt (slT T w) i))) (J (if bt (slT T w) i = true then dc ||| 2 ^ (i / 10).toNat else dc : Nat)) (J (if (if bt (slT T w) i = true then (if md = -1 ∨ T (6 + i) < md then T (6 + i) else md) else md) = -1 then 1000000 else (if bt (slT T w) i = true then (if md = -1 ∨ T (6 + i) < md then T (6 + i) else md) else md))) (J (max M (niT T w i))) (J (i + 1)) := by
      intro k2 K2
      cases hb : bt (slT T w) i
      · have hn0 : niT T w i = 0 := by
          rw [hb] at hnb
          have : ¬ 0 < niT T w i := by simpa using hnb
          omega
        rw [hn0, show b01 false = 0 from rfl]
        simp only [Bool.false_eq_true, if_false]
        generalize (if md = -1 then 1000000 else md) = z
        simp (disch := omega) only [j_X12_ofWord_61, j_X12_ofWord_74, j_X12_ofWord_91, j_X12_ofWord_119, X12_greater_ok, lm8, lm2, lm1, l0, l1, l2, l3, l4, l5, l6, l7, l8, l9, l10, l11, l12, l13, l14, l15, l16, l17, l18, l19, l20, l21, l22, l23, l24, l25, l27, l31, l32, l40, l46, l48, l50, l57, l59, l63, l86, l96, l97, l100, l110, l114, l122, l127, l200, l255, l300, l319, l320, l340, l441, l456, l580, l600, l800, l886, l1206, l1526, J_add, J_sub, J_mul, J_neg, J_lt, J_le, J_eq, jT, jF, iT, iF, eT, eF, aT, aF, ite_true, ite_false, ite_not, bs, J_or0]
      · have hn0 : 0 < niT T w i := by
          rw [hb] at hnb
          simpa using hnb
        have hb2 := hb
        rw [sl_bit H.wf hi hi2, Bool.and_eq_true] at hb2
        have hv := vbT_iff.mp hb2.1
        have hdt := dt_at D hv
        rw [if_pos rfl, if_pos rfl, show b01 true = 1 from rfl]
        by_cases hm1 : md = -1
        · rw [if_pos hm1, if_pos (Or.inl hm1), if_neg (by omega)]
          simp (disch := omega) only [j_X12_ofWord_61, j_X12_ofWord_74, j_X12_ofWord_91, j_X12_ofWord_119, H.1.r18, H.told, X12_greater_ok, X12_lesser_ok, lm8, lm2, lm1, l0, l1, l2, l3, l4, l5, l6, l7, l8, l9, l10, l11, l12, l13, l14, l15, l16, l17, l18, l19, l20, l21, l22, l23, l24, l25, l27, l31, l32, l40, l46, l48, l50, l57, l59, l63, l86, l96, l97, l100, l110, l114, l122, l127, l200, l255, l300, l319, l320, l340, l441, l456, l580, l600, l800, l886, l1206, l1526, J_add, J_sub, J_mul, J_neg, J_lt, J_le, J_eq, jT, jF, iT, iF, eT, eF, aT, aF, ite_true, ite_false, ite_not, bs]
          rw [eo, show min 1000000 (T (6 + i)) = T (6 + i) by omega]
        · rw [if_neg hm1]
          by_cases hlt : T (6 + i) < md
          · rw [if_pos (Or.inr hlt), if_neg (by omega)]
            simp (disch := omega) only [j_X12_ofWord_61, j_X12_ofWord_74, j_X12_ofWord_91, j_X12_ofWord_119, H.1.r18, H.told, X12_greater_ok, X12_lesser_ok, lm8, lm2, lm1, l0, l1, l2, l3, l4, l5, l6, l7, l8, l9, l10, l11, l12, l13, l14, l15, l16, l17, l18, l19, l20, l21, l22, l23, l24, l25, l27, l31, l32, l40, l46, l48, l50, l57, l59, l63, l86, l96, l97, l100, l110, l114, l122, l127, l200, l255, l300, l319, l320, l340, l441, l456, l580, l600, l800, l886, l1206, l1526, J_add, J_sub, J_mul, J_neg, J_lt, J_le, J_eq, jT, jF, iT, iF, eT, eF, aT, aF, ite_true, ite_false, ite_not, bs]
            rw [eo, show min md (T (6 + i)) = T (6 + i) by omega]
          · rw [if_neg (by omega), if_neg (by omega)]
            simp (disch := omega) only [j_X12_ofWord_61, j_X12_ofWord_74, j_X12_ofWord_91, j_X12_ofWord_119, H.1.r18, H.told, X12_greater_ok, X12_lesser_ok, lm8, lm2, lm1, l0, l1, l2, l3, l4, l5, l6, l7, l8, l9, l10, l11, l12, l13, l14, l15, l16, l17, l18, l19, l20, l21, l22, l23, l24, l25, l27, l31, l32, l40, l46, l48, l50, l57, l59, l63, l86, l96, l97, l100, l110, l114, l122, l127, l200, l255, l300, l319, l320, l340, l441, l456, l580, l600, l800, l886, l1206, l1526, J_add, J_sub, J_mul, J_neg, J_lt, J_le, J_eq, jT, jF, iT, iF, eT, eF, aT, aF, ite_true, ite_false, ite_not, bs]
            rw [eo, show min md (T (6 + i)) = md by omega]
    cases hv : vbT T (i / 10) (i % 10)
    · rw [hv] at e1
      have en : niT T w i = 0 := by
        unfold niT
        rw [hv]
        rfl
      rw [en] at e61 ⊢
      simp (disch := omega) only [b_X12_ofWord_16, rc_ok H.tag, J_div, J_rem, e1, e61, lm8, lm2, lm1, l0, l1, l2, l3, l4, l5, l6, l7, l8, l9, l10, l11, l12, l13, l14, l15, l16, l17, l18, l19, l20, l21, l22, l23, l24, l25, l27, l31, l32, l40, l46, l48, l50, l57, l59, l63, l86, l96, l97, l100, l110, l114, l122, l127, l200, l255, l300, l319, l320, l340, l441, l456, l580, l600, l800, l886, l1206, l1526, J_add, J_sub, J_mul, J_neg, J_lt, J_le, J_eq, jT, jF, iT, iF, eT, eF, aT, aF, ite_true, ite_false, ite_not, bs, bI, cond_false]
    · rw [hv] at e1
      have en : niT T w i = tiT T (i / 10) (i % 10) w := by
        unfold niT
        rw [hv, if_pos rfl]
      have et := H.timesIn (vbT_iff.mp hv) w0 w1
      rw [← en] at et
      simp (disch := omega) only [b_X12_ofWord_16, rc_ok H.tag, J_div, J_rem, e1, et, e61, lm8, lm2, lm1, l0, l1, l2, l3, l4, l5, l6, l7, l8, l9, l10, l11, l12, l13, l14, l15, l16, l17, l18, l19, l20, l21, l22, l23, l24, l25, l27, l31, l32, l40, l46, l48, l50, l57, l59, l63, l86, l96, l97, l100, l110, l114, l122, l127, l200, l255, l300, l319, l320, l340, l441, l456, l580, l600, l800, l886, l1206, l1526, J_add, J_sub, J_mul, J_neg, J_lt, J_le, J_eq, jT, jF, iT, iF, eT, eF, aT, aF, ite_true, ite_false, ite_not, bs, bI, cond_true]
  · show b_X12_ofWord_16 o (J w) (J a) h (fun a1_3 a1_4 a1_5 a1_6 => j_X12_ofWord_136 (J w) (J a) a1_3 a1_4 a1_5 a1_6 h) _ _ _ _ _ (J 40) = _
    generalize (if mdZ T (slT T w) 40 = -1 then 1000000 else mdZ T (slT T w) 40) = z
    by_cases q0 : a = 0
    · simp (disch := omega) only [b_X12_ofWord_16, j_X12_ofWord_136, lm8, lm2, lm1, l0, l1, l2, l3, l4, l5, l6, l7, l8, l9, l10, l11, l12, l13, l14, l15, l16, l17, l18, l19, l20, l21, l22, l23, l24, l25, l27, l31, l32, l40, l46, l48, l50, l57, l59, l63, l86, l96, l97, l100, l110, l114, l122, l127, l200, l255, l300, l319, l320, l340, l441, l456, l580, l600, l800, l886, l1206, l1526, J_add, J_sub, J_mul, J_neg, J_lt, J_le, J_eq, jT, jF, iT, iF, eT, eF, aT, aF, ite_true, ite_false, ite_not, bs]
    · by_cases q1 : a = 1
      · simp (disch := omega) only [b_X12_ofWord_16, j_X12_ofWord_136, lm8, lm2, lm1, l0, l1, l2, l3, l4, l5, l6, l7, l8, l9, l10, l11, l12, l13, l14, l15, l16, l17, l18, l19, l20, l21, l22, l23, l24, l25, l27, l31, l32, l40, l46, l48, l50, l57, l59, l63, l86, l96, l97, l100, l110, l114, l122, l127, l200, l255, l300, l319, l320, l340, l441, l456, l580, l600, l800, l886, l1206, l1526, J_add, J_sub, J_mul, J_neg, J_lt, J_le, J_eq, jT, jF, iT, iF, eT, eF, aT, aF, ite_true, ite_false, ite_not, bs]
      · by_cases q2 : a = 2
        · simp (disch := omega) only [b_X12_ofWord_16, j_X12_ofWord_136, lm8, lm2, lm1, l0, l1, l2, l3, l4, l5, l6, l7, l8, l9, l10, l11, l12, l13, l14, l15, l16, l17, l18, l19, l20, l21, l22, l23, l24, l25, l27, l31, l32, l40, l46, l48, l50, l57, l59, l63, l86, l96, l97, l100, l110, l114, l122, l127, l200, l255, l300, l319, l320, l340, l441, l456, l580, l600, l800, l886, l1206, l1526, J_add, J_sub, J_mul, J_neg, J_lt, J_le, J_eq, jT, jF, iT, iF, eT, eF, aT, aF, ite_true, ite_false, ite_not, bs]
        · by_cases q3 : a = 3
          · simp (disch := omega) only [b_X12_ofWord_16, j_X12_ofWord_136, lm8, lm2, lm1, l0, l1, l2, l3, l4, l5, l6, l7, l8, l9, l10, l11, l12, l13, l14, l15, l16, l17, l18, l19, l20, l21, l22, l23, l24, l25, l27, l31, l32, l40, l46, l48, l50, l57, l59, l63, l86, l96, l97, l100, l110, l114, l122, l127, l200, l255, l300, l319, l320, l340, l441, l456, l580, l600, l800, l886, l1206, l1526, J_add, J_sub, J_mul, J_neg, J_lt, J_le, J_eq, jT, jF, iT, iF, eT, eF, aT, aF, ite_true, ite_false, ite_not, bs]
          · by_cases q4 : a = 4
            · simp (disch := omega) only [b_X12_ofWord_16, j_X12_ofWord_136, lm8, lm2, lm1, l0, l1, l2, l3, l4, l5, l6, l7, l8, l9, l10, l11, l12, l13, l14, l15, l16, l17, l18, l19, l20, l21, l22, l23, l24, l25, l27, l31, l32, l40, l46, l48, l50, l57, l59, l63, l86, l96, l97, l100, l110, l114, l122, l127, l200, l255, l300, l319, l320, l340, l441, l456, l580, l600, l800, l886, l1206, l1526, J_add, J_sub, J_mul, J_neg, J_lt, J_le, J_eq, jT, jF, iT, iF, eT, eF, aT, aF, ite_true, ite_false, ite_not, bs]
            · simp (disch := omega) only [b_X12_ofWord_16, j_X12_ofWord_136, lm8, lm2, lm1, l0, l1, l2, l3, l4, l5, l6, l7, l8, l9, l10, l11, l12, l13, l14, l15, l16, l17, l18, l19, l20, l21, l22, l23, l24, l25, l27, l31, l32, l40, l46, l48, l50, l57, l59, l63, l86, l96, l97, l100, l110, l114, l122, l127, l200, l255, l300, l319, l320, l340, l441, l456, l580, l600, l800, l886, l1206, l1526, J_add, J_sub, J_mul, J_neg, J_lt, J_le, J_eq, jT, jF, iT, iF, eT, eF, aT, aF, ite_true, ite_false, ite_not, bs]
end WQ
