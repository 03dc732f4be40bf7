/-! PURE PART: questions; phrases, words near one another, so many times: both sides -/
def qkT (Q : Int → Int) (k : Int) : Int := Q (1 + 7 * k)
def qaT (Q : Int → Int) (k : Int) : Int := Q (1 + 7 * k + 1)
def qbT (Q : Int → Int) (k : Int) : Int := Q (1 + 7 * k + 2)
def qwT (Q : Int → Int) (k i : Int) : Int := Q (1 + 7 * k + (3 + i))
def qcT (Q : Int → Int) (k : Int) : Int := if qkT Q k = 0 then qaT Q k else if qkT Q k = 1 then 2 else if qkT Q k = 2 then 1 else 0
/-- the row is that of questions -/
def QW (Q : Int → Int) : Prop := (0 ≤ Q 0 ∧ Q 0 ≤ 8) ∧ ∀ k, 0 ≤ k → k < Q 0 → (0 ≤ qkT Q k ∧ qkT Q k ≤ 7) ∧ (qkT Q k = 0 → 1 ≤ qaT Q k ∧ qaT Q k ≤ 4 ∧ qbT Q k = -1) ∧ (qkT Q k = 1 ∨ qkT Q k = 2 → 1 ≤ qaT Q k ∧ qaT Q k ≤ 9 ∧ qbT Q k = -1) ∧ (3 ≤ qkT Q k → 0 ≤ qaT Q k ∧ qaT Q k < k) ∧ (3 ≤ qkT Q k → qkT Q k ≤ 5 → qbT Q k = -1) ∧ (6 ≤ qkT Q k → 0 ≤ qbT Q k ∧ qbT Q k < k) ∧ ∀ i, 0 ≤ i → i < qcT Q k → wrg (qwT Q k i)
def TQ (t : Tp) (o : Nat) : Prop := t.1 o = 6 ∧ (t.2.2 o 1 = o + 1 ∧ TI t (o + 1) 8) ∧ (t.2.2 o 2 = o + 2 ∧ TI t (o + 2) 16) ∧ (t.2.2 o 3 = o + 3 ∧ TI t (o + 3) 8) ∧ t.2.2 o 4 = o + 4 ∧ TI t (o + 4) 32
/-- the class's Questions at o show Q -/
def QA (h : Hp) (o : Nat) (Q : Int → Int) : Prop := TQ (top h) o ∧ QW Q ∧ hE h o 0 = Q 0 ∧ ∀ k, 0 ≤ k → k < Q 0 → hE h (o + 1) k = qkT Q k ∧ hE h (o + 2) (k * 2 + 0) = qaT Q k ∧ hE h (o + 2) (k * 2 + 1) = qbT Q k ∧ hE h (o + 3) k = qcT Q k ∧ ∀ i, 0 ≤ i → i < qcT Q k → hE h (o + 4) (k * 4 + i) = wide (qwT Q k i)
/-- the reference at o asks Q -/
def RQ (h : Hp) (o : Nat) (Q : Int → Int) : Prop := TR (top h) o ∧ QW Q ∧ ∃ q : Int, 0 ≤ q ∧ q < 8 ∧ hE h o 28 = q ∧ ∀ i, 0 ≤ i → i < 57 → hE h (o + 7) (57 * q + i) = Q i
section QU
variable {h : Hp} {o g : Nat} {T Q : Int → Int}
theorem QA.tag (G : QA h g Q) : hTag h g = 6 := G.1.1
theorem QW.sz (W : QW Q) : 0 ≤ Q 0 ∧ Q 0 ≤ 8 := W.1
theorem QW.cnt (W : QW Q) {k : Int} (k0 : 0 ≤ k) (k1 : k < Q 0) : 0 ≤ qcT Q k ∧ qcT Q k ≤ 4 := by
  have := W.2 k k0 k1
  unfold qcT
  split
  · have := this.2.1 (by omega)
    omega
  · split
    · omega
    · split <;> omega
theorem QW.na (W : QW Q) {k : Int} (k0 : 0 ≤ k) (k1 : k < Q 0) : 0 ≤ qaT Q k ∧ qaT Q k ≤ 9 := by
  have h0 := W.1
  have h1 := W.2 k k0 k1
  by_cases c0 : qkT Q k = 0
  · have := h1.2.1 c0
    omega
  · by_cases c1 : qkT Q k = 1 ∨ qkT Q k = 2
    · have := h1.2.2.1 c1
      omega
    · have := h1.2.2.2.1 (by omega)
      omega
theorem QW.nb (W : QW Q) {k : Int} (k0 : 0 ≤ k) (k1 : k < Q 0) : -1 ≤ qbT Q k ∧ qbT Q k ≤ 9 := by
  have h0 := W.1
  have h1 := W.2 k k0 k1
  by_cases c0 : qkT Q k = 0
  · have := h1.2.1 c0
    omega
  · by_cases c1 : qkT Q k = 1 ∨ qkT Q k = 2
    · have := h1.2.2.1 c1
      omega
    · by_cases c2 : qkT Q k ≤ 5
      · have := h1.2.2.2.2.1 (by omega) c2
        omega
      · have := h1.2.2.2.2.2.1 (by omega)
        omega
theorem QA.f0 (G : QA h g Q) : gfI h g 6 0 = some (J (Q 0)) := by rw [gfI_ok G.1.1]; exact congrArg (fun z => some (J z)) G.2.2.1
theorem QA.kindOf (G : QA h g Q) {k : Int} (k0 : 0 ≤ k) (k1 : k < Q 0) : m_X6_kindOf g (J k) h = some (J (qkT Q k)) := by
  have h0 := G.2.1.1
  have e := X5_at_ok (h := h) (i := k) G.1.2.1.2 (by omega) (by omega) (by omega)
  rw [atE_in k0 (by omega), (G.2.2.2 k k0 k1).1] at e
  simp only [m_X6_kindOf, gfR_ok (h := h) (t := 6) (k := 1) G.1.1 G.1.2.1.1, e, lm8, lm2, lm1, l0, l1, l2, l3, l4, l5, l6, l7, l8, l9, l10, l11, l12, l13, l14, l15, l16, l17, l18, l19, l20, l21, l22, l23, l24, l25, l27, l31, l32, l40, l46, l48, l50, l57, l59, l63, l86, l96, l97, l100, l110, l114, l122, l127, l200, l255, l300, l319, l320, l340, l441, l456, l580, l600, l800, l886, l1206, l1526, J_add, J_sub, J_mul, J_neg, J_lt, J_le, J_eq, jT, jF, iT, iF, eT, eF, aT, aF, ite_true, ite_false, ite_not, bs]
theorem QA.number0 (G : QA h g Q) {k : Int} (k0 : 0 ≤ k) (k1 : k < Q 0) : m_X6_numberOf g (J k) (J 0) h = some (J (qaT Q k)) := by
  have h0 := G.2.1.1
  have e := X5_at_ok (h := h) (i := k * 2 + 0) G.1.2.2.1.2 (by omega) (by omega) (by omega)
  rw [atE_in (by omega) (by omega), (G.2.2.2 k k0 k1).2.1] at e
  simp only [m_X6_numberOf, gfR_ok (h := h) (t := 6) (k := 2) G.1.1 G.1.2.2.1.1, e, lm8, lm2, lm1, l0, l1, l2, l3, l4, l5, l6, l7, l8, l9, l10, l11, l12, l13, l14, l15, l16, l17, l18, l19, l20, l21, l22, l23, l24, l25, l27, l31, l32, l40, l46, l48, l50, l57, l59, l63, l86, l96, l97, l100, l110, l114, l122, l127, l200, l255, l300, l319, l320, l340, l441, l456, l580, l600, l800, l886, l1206, l1526, J_add, J_sub, J_mul, J_neg, J_lt, J_le, J_eq, jT, jF, iT, iF, eT, eF, aT, aF, ite_true, ite_false, ite_not, bs]
theorem QA.number1 (G : QA h g Q) {k : Int} (k0 : 0 ≤ k) (k1 : k < Q 0) : m_X6_numberOf g (J k) (J 1) h = some (J (qbT Q k)) := by
  have h0 := G.2.1.1
  have e := X5_at_ok (h := h) (i := k * 2 + 1) G.1.2.2.1.2 (by omega) (by omega) (by omega)
  rw [atE_in (by omega) (by omega), (G.2.2.2 k k0 k1).2.2.1] at e
  simp only [m_X6_numberOf, gfR_ok (h := h) (t := 6) (k := 2) G.1.1 G.1.2.2.1.1, e, lm8, lm2, lm1, l0, l1, l2, l3, l4, l5, l6, l7, l8, l9, l10, l11, l12, l13, l14, l15, l16, l17, l18, l19, l20, l21, l22, l23, l24, l25, l27, l31, l32, l40, l46, l48, l50, l57, l59, l63, l86, l96, l97, l100, l110, l114, l122, l127, l200, l255, l300, l319, l320, l340, l441, l456, l580, l600, l800, l886, l1206, l1526, J_add, J_sub, J_mul, J_neg, J_lt, J_le, J_eq, jT, jF, iT, iF, eT, eF, aT, aF, ite_true, ite_false, ite_not, bs]
theorem QA.wordsOf (G : QA h g Q) {k : Int} (k0 : 0 ≤ k) (k1 : k < Q 0) : m_X6_wordsOf g (J k) h = some (J (qcT Q k)) := by
  have h0 := G.2.1.1
  have e := X5_at_ok (h := h) (i := k) G.1.2.2.2.1.2 (by omega) (by omega) (by omega)
  rw [atE_in k0 (by omega), (G.2.2.2 k k0 k1).2.2.2.1] at e
  simp only [m_X6_wordsOf, gfR_ok (h := h) (t := 6) (k := 3) G.1.1 G.1.2.2.2.1.1, e, lm8, lm2, lm1, l0, l1, l2, l3, l4, l5, l6, l7, l8, l9, l10, l11, l12, l13, l14, l15, l16, l17, l18, l19, l20, l21, l22, l23, l24, l25, l27, l31, l32, l40, l46, l48, l50, l57, l59, l63, l86, l96, l97, l100, l110, l114, l122, l127, l200, l255, l300, l319, l320, l340, l441, l456, l580, l600, l800, l886, l1206, l1526, J_add, J_sub, J_mul, J_neg, J_lt, J_le, J_eq, jT, jF, iT, iF, eT, eF, aT, aF, ite_true, ite_false, ite_not, bs]
theorem QA.wordOf (G : QA h g Q) {k i : Int} (k0 : 0 ≤ k) (k1 : k < Q 0) (i0 : 0 ≤ i) (i1 : i < qcT Q k) : m_X6_wordOf g (J k) (J i) h = some (J (wide (qwT Q k i))) := by
  have h0 := G.2.1.1
  have hc := G.2.1.cnt k0 k1
  have e := X5_at_ok (h := h) (i := k * 4 + i) G.1.2.2.2.2.2 (by omega) (by omega) (by omega)
  rw [atE_in (by omega) (by omega), (G.2.2.2 k k0 k1).2.2.2.2 i i0 i1] at e
  simp only [m_X6_wordOf, gfR_ok (h := h) (t := 6) (k := 4) G.1.1 G.1.2.2.2.2.1, e, lm8, lm2, lm1, l0, l1, l2, l3, l4, l5, l6, l7, l8, l9, l10, l11, l12, l13, l14, l15, l16, l17, l18, l19, l20, l21, l22, l23, l24, l25, l27, l31, l32, l40, l46, l48, l50, l57, l59, l63, l86, l96, l97, l100, l110, l114, l122, l127, l200, l255, l300, l319, l320, l340, l441, l456, l580, l600, l800, l886, l1206, l1526, J_add, J_sub, J_mul, J_neg, J_lt, J_le, J_eq, jT, jF, iT, iF, eT, eF, aT, aF, ite_true, ite_false, ite_not, bs]
theorem QA.has (G : QA h g Q) {k : Int} (h1 : -2147483648 ≤ k) (h2 : k < 2147483648) : m_X6_has g (J k) h = some (J (b01 (decide (0 ≤ k) && decide (k < Q 0)))) := by
  have h0 := G.2.1.1
  by_cases hk : k < 0
  · rw [decide_eq_false (show ¬ 0 ≤ k by omega), Bool.false_and]
    simp (disch := omega) only [m_X6_has, j_X6_has_17, lm8, lm2, lm1, l0, l1, l2, l3, l4, l5, l6, l7, l8, l9, l10, l11, l12, l13, l14, l15, l16, l17, l18, l19, l20, l21, l22, l23, l24, l25, l27, l31, l32, l40, l46, l48, l50, l57, l59, l63, l86, l96, l97, l100, l110, l114, l122, l127, l200, l255, l300, l319, l320, l340, l441, l456, l580, l600, l800, l886, l1206, l1526, J_add, J_sub, J_mul, J_neg, J_lt, J_le, J_eq, jT, jF, iT, iF, eT, eF, aT, aF, ite_true, ite_false, ite_not, bs, zb0]
    rfl
  · rw [decide_eq_true (show 0 ≤ k by omega), Bool.true_and]
    by_cases hk2 : k < Q 0
    · rw [decide_eq_true hk2]
      simp (disch := omega) only [m_X6_has, j_X6_has_17, G.f0, lm8, lm2, lm1, l0, l1, l2, l3, l4, l5, l6, l7, l8, l9, l10, l11, l12, l13, l14, l15, l16, l17, l18, l19, l20, l21, l22, l23, l24, l25, l27, l31, l32, l40, l46, l48, l50, l57, l59, l63, l86, l96, l97, l100, l110, l114, l122, l127, l200, l255, l300, l319, l320, l340, l441, l456, l580, l600, l800, l886, l1206, l1526, J_add, J_sub, J_mul, J_neg, J_lt, J_le, J_eq, jT, jF, iT, iF, eT, eF, aT, aF, ite_true, ite_false, ite_not, bs, zb1]
      rfl
    · rw [decide_eq_false hk2]
      simp (disch := omega) only [m_X6_has, j_X6_has_17, G.f0, lm8, lm2, lm1, l0, l1, l2, l3, l4, l5, l6, l7, l8, l9, l10, l11, l12, l13, l14, l15, l16, l17, l18, l19, l20, l21, l22, l23, l24, l25, l27, l31, l32, l40, l46, l48, l50, l57, l59, l63, l86, l96, l97, l100, l110, l114, l122, l127, l200, l255, l300, l319, l320, l340, l441, l456, l580, l600, l800, l886, l1206, l1526, J_add, J_sub, J_mul, J_neg, J_lt, J_le, J_eq, jT, jF, iT, iF, eT, eF, aT, aF, ite_true, ite_false, ite_not, bs, zb0]
      rfl
theorem RQ.tag (G : RQ h o Q) : hTag h o = 12 := G.1.1
theorem RQ.many (G : RQ h o Q) : m_X12_askedMany o h = some (J (Q 0)) := by
  obtain ⟨g1, g2, q, q0, q1, q2, q3⟩ := G
  have e28 : gfI h o 12 28 = some (J q) := by rw [g1.f28, q2]
  have ea : alI h (o + 7) (J (57 * q)) = some (J (Q 0)) := by
    rw [alI_ok g1.a7 (by omega) (by omega) (by omega)]
    have := q3 0 (by omega) (by omega)
    rw [Int.add_zero] at this
    rw [this]
  simp only [m_X12_askedMany, g1.r7, e28, ea, lm8, lm2, lm1, l0, l1, l2, l3, l4, l5, l6, l7, l8, l9, l10, l11, l12, l13, l14, l15, l16, l17, l18, l19, l20, l21, l22, l23, l24, l25, l27, l31, l32, l40, l46, l48, l50, l57, l59, l63, l86, l96, l97, l100, l110, l114, l122, l127, l200, l255, l300, l319, l320, l340, l441, l456, l580, l600, l800, l886, l1206, l1526, J_add, J_sub, J_mul, J_neg, J_lt, J_le, J_eq, jT, jF, iT, iF, eT, eF, aT, aF, ite_true, ite_false, ite_not, bs]
theorem RQ.ofAsking (G : RQ h o Q) {k i : Int} (h0 : 0 ≤ 7 * k + i) (h1 : 7 * k + i < 56) : m_X12_ofAsking o (J k) (J i) h = some (J (Q (1 + 7 * k + i))) := by
  obtain ⟨g1, g2, q, q0, q1, q2, q3⟩ := G
  have e28 : gfI h o 12 28 = some (J q) := by rw [g1.f28, q2]
  have ea : alI h (o + 7) (J (57 * q + 1 + 7 * k + i)) = some (J (Q (1 + 7 * k + i))) := by
    rw [alI_ok g1.a7 (by omega) (by omega) (by omega)]
    have := q3 (1 + 7 * k + i) (by omega) (by omega)
    rw [show 57 * q + (1 + 7 * k + i) = 57 * q + 1 + 7 * k + i by omega] at this
    rw [this]
  simp only [m_X12_ofAsking, g1.r7, e28, ea, lm8, lm2, lm1, l0, l1, l2, l3, l4, l5, l6, l7, l8, l9, l10, l11, l12, l13, l14, l15, l16, l17, l18, l19, l20, l21, l22, l23, l24, l25, l27, l31, l32, l40, l46, l48, l50, l57, l59, l63, l86, l96, l97, l100, l110, l114, l122, l127, l200, l255, l300, l319, l320, l340, l441, l456, l580, l600, l800, l886, l1206, l1526, J_add, J_sub, J_mul, J_neg, J_lt, J_le, J_eq, jT, jF, iT, iF, eT, eF, aT, aF, ite_true, ite_false, ite_not, bs]
theorem RQ.kind (G : RQ h o Q) {k : Int} (k0 : 0 ≤ k) (k1 : k < 8) : m_X12_ofAsking o (J k) (J 0) h = some (J (qkT Q k)) := by
  have := G.ofAsking (k := k) (i := 0) (by omega) (by omega)
  rw [Int.add_zero] at this
  exact this
theorem RQ.na (G : RQ h o Q) {k : Int} (k0 : 0 ≤ k) (k1 : k < 8) : m_X12_ofAsking o (J k) (J 1) h = some (J (qaT Q k)) := G.ofAsking (by omega) (by omega)
theorem RQ.nb (G : RQ h o Q) {k : Int} (k0 : 0 ≤ k) (k1 : k < 8) : m_X12_ofAsking o (J k) (J 2) h = some (J (qbT Q k)) := G.ofAsking (by omega) (by omega)
theorem RQ.word (G : RQ h o Q) {k i : Int} (k0 : 0 ≤ k) (k1 : k < 8) (i0 : 0 ≤ i) (i1 : i < 4) : m_X12_ofAsking o (J k) (J (3 + i)) h = some (J (qwT Q k i)) := G.ofAsking (by omega) (by omega)
/-- where a phrase begins, how often -/
def miT (T Q : Int → Int) (k d v p : Int) : Int := fiZ (qaT Q k) (fun i => !decide (wdT T (rwT T d v (p + i)) = qwT Q k i))
def bgB (T Q : Int → Int) (k d v p : Int) : Bool := decide (p + qaT Q k ≤ lnT T d v) && decide (miT T Q k d v p = -1)
def beT (T Q : Int → Int) (k d v : Int) : Int := sumZ (lnT T d v) (fun p => b01 (bgB T Q k d v p))
theorem beT_rg (W : AW T) {k d v : Int} (hv : vvT T d v) : 0 ≤ beT T Q k d v ∧ beT T Q k d v ≤ 20 := by
  have hl := W.ln hv
  have := sumZ_nonneg (n := lnT T d v) (c := 1) (f := fun p => b01 (bgB T Q k d v p)) hl.1 (fun _ _ _ => b01_rg _)
  unfold beT
  omega
theorem CA.beginnings (H : CA h o T) (G : QA h g Q) {x : Nat} {k d v : Int} (k0 : 0 ≤ k) (k1 : k < Q 0) (hk : qkT Q k = 0) (hv : vvT T d v) : m_X8_beginnings x o g (J k) (J d) (J v) h = some (J (beT T Q k d v)) := by
  have hb := H.wf.vb hv
  have hl := H.wf.ln hv
  have hq := G.2.1.2 k k0 k1
  have hn := hq.2.1 hk
  have hc : qcT Q k = qaT Q k := by unfold qcT; rw [if_pos hk]
  have hw := G.wordsOf k0 k1
  rw [hc] at hw
  have hsz := G.2.1.1
  unfold m_X8_beginnings
  rw [rc_ok G.tag, hw, bs]
  have inner : ∀ (p s : Int) (K : Int32 → Option Int32), 0 ≤ p → p + qaT Q k ≤ lnT T d v → l_X8_beginnings_32 o g (J k) (J d) (J v) (J (qaT Q k)) (J s) (J p) h K (J 0) = K (J (if miT T Q k d v p = -1 then qaT Q k else miT T Q k d v p)) := by
    intro p s K p0 p1
    unfold l_X8_beginnings_32 miT
    refine loop_find (fun i => J i) (qaT Q k) (fun i => !decide (wdT T (rwT T d v (p + i)) = qwT Q k i)) (fun i => K (J (if i = -1 then qaT Q k else i))) (by omega) (by omega) rfl (fun k_ i hi hi2 hp => ?_) (fun k_ i hi hi2 hp => ?_) (fun k_ => ?_)
    · have hpp : ppT T d v (p + i) := ⟨hv, by omega, by omega⟩
      have q1 := H.wf.wd hpp
      have q2 := wide_rg q1.1 q1.2.1
      have q3 := hq.2.2.2.2.2.2 i hi (by omega)
      have q4 := wide_rg q3.1 q3.2.1
      have hp2 : wdT T (rwT T d v (p + i)) = qwT Q k i := by simpa using hp
      have hp3 : wide (wdT T (rwT T d v (p + i))) = wide (qwT Q k i) := by rw [hp2]
      simp (disch := first | omega | exact hp3) only [b_X8_beginnings_32, rc_ok H.tag, rc_ok G.tag, H.spellingAt hpp, G.wordOf k0 k1, lm8, lm2, lm1, l0, l1, l2, l3, l4, l5, l6, l7, l8, l9, l10, l11, l12, l13, l14, l15, l16, l17, l18, l19, l20, l21, l22, l23, l24, l25, l27, l31, l32, l40, l46, l48, l50, l57, l59, l63, l86, l96, l97, l100, l110, l114, l122, l127, l200, l255, l300, l319, l320, l340, l441, l456, l580, l600, l800, l886, l1206, l1526, J_add, J_sub, J_mul, J_neg, J_lt, J_le, J_eq, jT, jF, iT, iF, eT, eF, aT, aF, ite_true, ite_false, ite_not, bs]
    · have hpp : ppT T d v (p + i) := ⟨hv, by omega, by omega⟩
      have q1 := H.wf.wd hpp
      have q2 := wide_rg q1.1 q1.2.1
      have q3 := hq.2.2.2.2.2.2 i hi (by omega)
      have q4 := wide_rg q3.1 q3.2.1
      have hp2 : ¬ wdT T (rwT T d v (p + i)) = qwT Q k i := by simpa using hp
      have hp3 : wide (wdT T (rwT T d v (p + i))) < wide (qwT Q k i) ∨ wide (qwT Q k i) < wide (wdT T (rwT T d v (p + i))) := by
        have : wide (wdT T (rwT T d v (p + i))) ≠ wide (qwT Q k i) := fun z => hp2 (by rw [wide_eq q1 q3] at z; exact z)
        omega
      rw [if_neg (by omega)]
      simp (disch := first | omega | exact hp3) only [b_X8_beginnings_32, rc_ok H.tag, rc_ok G.tag, H.spellingAt hpp, G.wordOf k0 k1, lm8, lm2, lm1, l0, l1, l2, l3, l4, l5, l6, l7, l8, l9, l10, l11, l12, l13, l14, l15, l16, l17, l18, l19, l20, l21, l22, l23, l24, l25, l27, l31, l32, l40, l46, l48, l50, l57, l59, l63, l86, l96, l97, l100, l110, l114, l122, l127, l200, l255, l300, l319, l320, l340, l441, l456, l580, l600, l800, l886, l1206, l1526, J_add, J_sub, J_mul, J_neg, J_lt, J_le, J_eq, jT, jF, iT, iF, eT, eF, aT, aF, ite_true, ite_false, ite_not, bs]
    · rw [if_pos rfl]
      simp (disch := omega) only [b_X8_beginnings_32, lm8, lm2, lm1, l0, l1, l2, l3, l4, l5, l6, l7, l8, l9, l10, l11, l12, l13, l14, l15, l16, l17, l18, l19, l20, l21, l22, l23, l24, l25, l27, l31, l32, l40, l46, l48, l50, l57, l59, l63, l86, l96, l97, l100, l110, l114, l122, l127, l200, l255, l300, l319, l320, l340, l441, l456, l580, l600, l800, l886, l1206, l1526, J_add, J_sub, J_mul, J_neg, J_lt, J_le, J_eq, jT, jF, iT, iF, eT, eF, aT, aF, ite_true, ite_false, ite_not, bs]
  have hmi : ∀ p, -1 ≤ miT T Q k d v p ∧ miT T Q k d v p < qaT Q k := by
    intro p
    unfold miT
    rcases fiZ_spec (qaT Q k) (fun i => !decide (wdT T (rwT T d v (p + i)) = qwT Q k i)) with ⟨e, _⟩ | ⟨e1, e2, _⟩ <;> omega
  unfold l_X8_beginnings_13 beT
  by_cases hs : lnT T d v < qaT Q k
  · have ez : sumZ (lnT T d v) (fun p => b01 (bgB T Q k d v p)) = 0 := sumZ_zero (fun p p0 p1 => by
      unfold bgB
      rw [decide_eq_false (by omega), Bool.false_and]
      rfl)
    rw [ez]
    refine loop_int (fun i => (J 0, J i)) 0 (by omega) (by omega) rfl (fun k_ i hi hi2 => by omega) (fun k_ => ?_)
    simp (disch := omega) only [b_X8_beginnings_13, rc_ok H.tag, H.lengthOf hv, lm8, lm2, lm1, l0, l1, l2, l3, l4, l5, l6, l7, l8, l9, l10, l11, l12, l13, l14, l15, l16, l17, l18, l19, l20, l21, l22, l23, l24, l25, l27, l31, l32, l40, l46, l48, l50, l57, l59, l63, l86, l96, l97, l100, l110, l114, l122, l127, l200, l255, l300, l319, l320, l340, l441, l456, l580, l600, l800, l886, l1206, l1526, J_add, J_sub, J_mul, J_neg, J_lt, J_le, J_eq, jT, jF, iT, iF, eT, eF, aT, aF, ite_true, ite_false, ite_not, bs]
  · rw [sumZ_cut (n := lnT T d v - qaT Q k + 1) (by omega) (by omega) (fun p p0 p1 => by
      unfold bgB
      rw [decide_eq_false (by omega), Bool.false_and]
      rfl)]
    refine loop_int (fun i => (J (sumZ i (fun p => b01 (bgB T Q k d v p))), J i)) (lnT T d v - qaT Q k + 1) (by omega) (by omega) rfl (fun k_ i hi hi2 => ?_) (fun k_ => ?_)
    · have e := fun s K => inner i s K hi (by omega)
      have hm := hmi i
      rw [sumZ_succ hi]
      unfold bgB
      rw [decide_eq_true (show i + qaT Q k ≤ lnT T d v by omega), Bool.true_and]
      by_cases hf : miT T Q k d v i = -1
      · rw [if_pos hf] at e
        rw [decide_eq_true hf]
        simp (disch := omega) only [b_X8_beginnings_13, j_X8_beginnings_68, j_X8_beginnings_82, rc_ok H.tag, H.lengthOf hv, e, lm8, lm2, lm1, l0, l1, l2, l3, l4, l5, l6, l7, l8, l9, l10, l11, l12, l13, l14, l15, l16, l17, l18, l19, l20, l21, l22, l23, l24, l25, l27, l31, l32, l40, l46, l48, l50, l57, l59, l63, l86, l96, l97, l100, l110, l114, l122, l127, l200, l255, l300, l319, l320, l340, l441, l456, l580, l600, l800, l886, l1206, l1526, J_add, J_sub, J_mul, J_neg, J_lt, J_le, J_eq, jT, jF, iT, iF, eT, eF, aT, aF, ite_true, ite_false, ite_not, bs]
        rfl
      · rw [if_neg hf] at e
        rw [decide_eq_false hf]
        simp (disch := omega) only [b_X8_beginnings_13, j_X8_beginnings_68, j_X8_beginnings_82, rc_ok H.tag, H.lengthOf hv, e, lm8, lm2, lm1, l0, l1, l2, l3, l4, l5, l6, l7, l8, l9, l10, l11, l12, l13, l14, l15, l16, l17, l18, l19, l20, l21, l22, l23, l24, l25, l27, l31, l32, l40, l46, l48, l50, l57, l59, l63, l86, l96, l97, l100, l110, l114, l122, l127, l200, l255, l300, l319, l320, l340, l441, l456, l580, l600, l800, l886, l1206, l1526, J_add, J_sub, J_mul, J_neg, J_lt, J_le, J_eq, jT, jF, iT, iF, eT, eF, aT, aF, ite_true, ite_false, ite_not, bs]
        rfl
    · simp (disch := omega) only [b_X8_beginnings_13, rc_ok H.tag, H.lengthOf hv, lm8, lm2, lm1, l0, l1, l2, l3, l4, l5, l6, l7, l8, l9, l10, l11, l12, l13, l14, l15, l16, l17, l18, l19, l20, l21, l22, l23, l24, l25, l27, l31, l32, l40, l46, l48, l50, l57, l59, l63, l86, l96, l97, l100, l110, l114, l122, l127, l200, l255, l300, l319, l320, l340, l441, l456, l580, l600, l800, l886, l1206, l1526, J_add, J_sub, J_mul, J_neg, J_lt, J_le, J_eq, jT, jF, iT, iF, eT, eF, aT, aF, ite_true, ite_false, ite_not, bs]
theorem RM.beginsAt (H : RM h o T) (G : RQ h o Q) {k d v p : Int} (k0 : 0 ≤ k) (k1 : k < Q 0) (hk : qkT Q k = 0) (hv : vvT T d v) (p0 : 0 ≤ p) (p1 : p < lnT T d v) : m_X12_beginsAt o (J k) (J d) (J v) (J p) h = some (J (b01 (bgB T Q k d v p))) := by
  have hb := H.wf.vb hv
  have hl := H.wf.ln hv
  have hsz := G.2.1.1
  have hq := G.2.1.2 k k0 k1
  have hn := hq.2.1 hk
  have hc : qcT Q k = qaT Q k := by unfold qcT; rw [if_pos hk]
  unfold bgB
  by_cases hs : lnT T d v < p + qaT Q k
  · rw [decide_eq_false (by omega), Bool.false_and]
    simp (disch := omega) only [m_X12_beginsAt, j_X12_beginsAt_27, rc_ok H.tag, G.na, H.longOf, lm8, lm2, lm1, l0, l1, l2, l3, l4, l5, l6, l7, l8, l9, l10, l11, l12, l13, l14, l15, l16, l17, l18, l19, l20, l21, l22, l23, l24, l25, l27, l31, l32, l40, l46, l48, l50, l57, l59, l63, l86, l96, l97, l100, l110, l114, l122, l127, l200, l255, l300, l319, l320, l340, l441, l456, l580, l600, l800, l886, l1206, l1526, J_add, J_sub, J_mul, J_neg, J_lt, J_le, J_eq, jT, jF, iT, iF, eT, eF, aT, aF, ite_true, ite_false, ite_not, bs]
    unfold l_X12_beginsAt_32
    refine loop_int (fun i => (J 0, J i)) 0 (by omega) (by omega) rfl (fun k_ i hi hi2 => by omega) (fun k_ => ?_)
    simp (disch := omega) only [b_X12_beginsAt_32, j_X12_beginsAt_80, zb0, lm8, lm2, lm1, l0, l1, l2, l3, l4, l5, l6, l7, l8, l9, l10, l11, l12, l13, l14, l15, l16, l17, l18, l19, l20, l21, l22, l23, l24, l25, l27, l31, l32, l40, l46, l48, l50, l57, l59, l63, l86, l96, l97, l100, l110, l114, l122, l127, l200, l255, l300, l319, l320, l340, l441, l456, l580, l600, l800, l886, l1206, l1526, J_add, J_sub, J_mul, J_neg, J_lt, J_le, J_eq, jT, jF, iT, iF, eT, eF, aT, aF, ite_true, ite_false, ite_not, bs]
    rfl
  · rw [decide_eq_true (by omega), Bool.true_and]
    simp (disch := omega) only [m_X12_beginsAt, j_X12_beginsAt_27, rc_ok H.tag, G.na, H.longOf, lm8, lm2, lm1, l0, l1, l2, l3, l4, l5, l6, l7, l8, l9, l10, l11, l12, l13, l14, l15, l16, l17, l18, l19, l20, l21, l22, l23, l24, l25, l27, l31, l32, l40, l46, l48, l50, l57, l59, l63, l86, l96, l97, l100, l110, l114, l122, l127, l200, l255, l300, l319, l320, l340, l441, l456, l580, l600, l800, l886, l1206, l1526, J_add, J_sub, J_mul, J_neg, J_lt, J_le, J_eq, jT, jF, iT, iF, eT, eF, aT, aF, ite_true, ite_false, ite_not, bs]
    unfold l_X12_beginsAt_32
    have step : ∀ (k_ : Int32 × Int32 → Option Int32) (K : Int32 → Option Int32) (i : Int), 0 ≤ i → i < qaT Q k → b_X12_beginsAt_32 o (J k) (J d) (J v) (J p) (J (qaT Q k)) h K (fun v6q v7q => k_ (v6q, v7q)) (J 1) (J i) = k_ (J (b01 (decide (wdT T (rwT T d v (p + i)) = qwT Q k i))), J (i + 1)) := by
      intro k_ K i hi hi2
      have hpp : ppT T d v (p + i) := ⟨hv, by omega, by omega⟩
      have q1 := H.wf.wd hpp
      have q3 := hq.2.2.2.2.2.2 i hi (by omega)
      have q31 := q3.1
      have q32 := q3.2.1
      have ew := G.word (k := k) (i := i) k0 (by omega) hi (by omega)
      simp (disch := omega) only [b_X12_beginsAt_32, j_X12_beginsAt_72, rc_ok H.tag, H.wordAt hpp, ew, lm8, lm2, lm1, l0, l1, l2, l3, l4, l5, l6, l7, l8, l9, l10, l11, l12, l13, l14, l15, l16, l17, l18, l19, l20, l21, l22, l23, l24, l25, l27, l31, l32, l40, l46, l48, l50, l57, l59, l63, l86, l96, l97, l100, l110, l114, l122, l127, l200, l255, l300, l319, l320, l340, l441, l456, l580, l600, l800, l886, l1206, l1526, J_add, J_sub, J_mul, J_neg, J_lt, J_le, J_eq, jT, jF, iT, iF, eT, eF, aT, aF, ite_true, ite_false, ite_not, bs, ib10]
    unfold miT
    rcases fiZ_spec (qaT Q k) (fun i => !decide (wdT T (rwT T d v (p + i)) = qwT Q k i)) with ⟨e1, e2⟩ | ⟨e1, e2, e3, e4⟩
    · rw [e1]
      refine loop_int (fun i => (J 1, J i)) (qaT Q k) (by omega) (by omega) rfl (fun k_ i hi hi2 => ?_) (fun k_ => ?_)
      · have hp2 : wdT T (rwT T d v (p + i)) = qwT Q k i := by have := e2 i hi hi2; simpa using this
        refine (step k_ _ i hi hi2).trans ?_
        rw [decide_eq_true hp2]
        rfl
      · simp (disch := omega) only [b_X12_beginsAt_32, j_X12_beginsAt_80, zb1, lm8, lm2, lm1, l0, l1, l2, l3, l4, l5, l6, l7, l8, l9, l10, l11, l12, l13, l14, l15, l16, l17, l18, l19, l20, l21, l22, l23, l24, l25, l27, l31, l32, l40, l46, l48, l50, l57, l59, l63, l86, l96, l97, l100, l110, l114, l122, l127, l200, l255, l300, l319, l320, l340, l441, l456, l580, l600, l800, l886, l1206, l1526, J_add, J_sub, J_mul, J_neg, J_lt, J_le, J_eq, jT, jF, iT, iF, eT, eF, aT, aF, ite_true, ite_false, ite_not, bs]
        rfl
    · rw [decide_eq_false (by omega)]
      generalize fiZ (qaT Q k) (fun i => !decide (wdT T (rwT T d v (p + i)) = qwT Q k i)) = f at *
      have hne : ¬ wdT T (rwT T d v (p + f)) = qwT Q k f := by simpa using e3
      refine loop_int (fun j => (J (b01 (decide (j ≤ f))), J j)) (f + 1) (by omega) (by omega) (by rw [decide_eq_true e1]; rfl) (fun k_ j hj hj2 => ?_) (fun k_ => ?_)
      · show b_X12_beginsAt_32 o (J k) (J d) (J v) (J p) (J (qaT Q k)) h _ _ (J (b01 (decide (j ≤ f)))) (J j) = _
        rw [decide_eq_true (show j ≤ f by omega)]
        refine (step k_ _ j hj (by omega)).trans ?_
        by_cases hjf : j = f
        · rw [hjf, decide_eq_false hne, decide_eq_false (by omega)]
        · have hq2 : wdT T (rwT T d v (p + j)) = qwT Q k j := by have := e4 j hj (by omega); simpa using this
          rw [decide_eq_true hq2, decide_eq_true (by omega)]
      · show b_X12_beginsAt_32 o (J k) (J d) (J v) (J p) (J (qaT Q k)) h _ _ (J (b01 (decide (f + 1 ≤ f)))) (J (f + 1)) = _
        rw [decide_eq_false (by omega), show b01 false = 0 from rfl]
        by_cases hend : qaT Q k ≤ f + 1
        · simp (disch := omega) only [b_X12_beginsAt_32, j_X12_beginsAt_80, zb0, lm8, lm2, lm1, l0, l1, l2, l3, l4, l5, l6, l7, l8, l9, l10, l11, l12, l13, l14, l15, l16, l17, l18, l19, l20, l21, l22, l23, l24, l25, l27, l31, l32, l40, l46, l48, l50, l57, l59, l63, l86, l96, l97, l100, l110, l114, l122, l127, l200, l255, l300, l319, l320, l340, l441, l456, l580, l600, l800, l886, l1206, l1526, J_add, J_sub, J_mul, J_neg, J_lt, J_le, J_eq, jT, jF, iT, iF, eT, eF, aT, aF, ite_true, ite_false, ite_not, bs]
        · simp (disch := omega) only [b_X12_beginsAt_32, j_X12_beginsAt_80, zb0, lm8, lm2, lm1, l0, l1, l2, l3, l4, l5, l6, l7, l8, l9, l10, l11, l12, l13, l14, l15, l16, l17, l18, l19, l20, l21, l22, l23, l24, l25, l27, l31, l32, l40, l46, l48, l50, l57, l59, l63, l86, l96, l97, l100, l110, l114, l122, l127, l200, l255, l300, l319, l320, l340, l441, l456, l580, l600, l800, l886, l1206, l1526, J_add, J_sub, J_mul, J_neg, J_lt, J_le, J_eq, jT, jF, iT, iF, eT, eF, aT, aF, ite_true, ite_false, ite_not, bs]
theorem RM.timesOf (H : RM h o T) (G : RQ h o Q) {k d v : Int} (k0 : 0 ≤ k) (k1 : k < Q 0) (hk : qkT Q k = 0) (hv : vvT T d v) : m_X12_timesOf o (J k) (J d) (J v) h = some (J (beT T Q k d v)) := by
  have hb := H.wf.vb hv
  have hl := H.wf.ln hv
  unfold m_X12_timesOf l_X12_timesOf_6 beT
  refine loop_int (fun i => (J (sumZ i (fun p => b01 (bgB T Q k d v p))), J i)) (lnT T d v) hl.1 (by omega) rfl (fun k_ i hi hi2 => ?_) (fun k_ => ?_)
  · rw [sumZ_succ hi]
    simp (disch := omega) only [b_X12_timesOf_6, j_X12_timesOf_36, rc_ok H.tag, H.longOf, H.beginsAt G k0 k1 hk hv hi hi2, lm8, lm2, lm1, l0, l1, l2, l3, l4, l5, l6, l7, l8, l9, l10, l11, l12, l13, l14, l15, l16, l17, l18, l19, l20, l21, l22, l23, l24, l25, l27, l31, l32, l40, l46, l48, l50, l57, l59, l63, l86, l96, l97, l100, l110, l114, l122, l127, l200, l255, l300, l319, l320, l340, l441, l456, l580, l600, l800, l886, l1206, l1526, J_add, J_sub, J_mul, J_neg, J_lt, J_le, J_eq, jT, jF, iT, iF, eT, eF, aT, aF, ite_true, ite_false, ite_not, bs, bI, bJ]
  · simp (disch := omega) only [b_X12_timesOf_6, rc_ok H.tag, H.longOf, lm8, lm2, lm1, l0, l1, l2, l3, l4, l5, l6, l7, l8, l9, l10, l11, l12, l13, l14, l15, l16, l17, l18, l19, l20, l21, l22, l23, l24, l25, l27, l31, l32, l40, l46, l48, l50, l57, l59, l63, l86, l96, l97, l100, l110, l114, l122, l127, l200, l255, l300, l319, l320, l340, l441, l456, l580, l600, l800, l886, l1206, l1526, J_add, J_sub, J_mul, J_neg, J_lt, J_le, J_eq, jT, jF, iT, iF, eT, eF, aT, aF, ite_true, ite_false, ite_not, bs]
/-- words near one another -/
def nbB (T Q : Int → Int) (k d v a b : Int) : Bool := decide (a ≠ b ∧ a - b ≤ qaT Q k ∧ b - a ≤ qaT Q k ∧ wdT T (rwT T d v a) = qwT Q k 0 ∧ wdT T (rwT T d v b) = qwT Q k 1)
def neB (T Q : Int → Int) (k d v : Int) : Bool := anyZ (lnT T d v) (fun a => anyZ (lnT T d v) (fun b => nbB T Q k d v a b))
theorem J9_abs_ok {a : Int} (h1 : -2147483648 < a) (h2 : a < 2147483648) : m_J9_abs_0f7a4 (J a) h = some (J (if 0 ≤ a then a else -a)) := by
  by_cases hc : 0 ≤ a
  · rw [if_pos hc]
    simp (disch := omega) only [m_J9_abs_0f7a4, j_J9_abs_0f7a4_10, lm8, lm2, lm1, l0, l1, l2, l3, l4, l5, l6, l7, l8, l9, l10, l11, l12, l13, l14, l15, l16, l17, l18, l19, l20, l21, l22, l23, l24, l25, l27, l31, l32, l40, l46, l48, l50, l57, l59, l63, l86, l96, l97, l100, l110, l114, l122, l127, l200, l255, l300, l319, l320, l340, l441, l456, l580, l600, l800, l886, l1206, l1526, J_add, J_sub, J_mul, J_neg, J_lt, J_le, J_eq, jT, jF, iT, iF, eT, eF, aT, aF, ite_true, ite_false, ite_not, bs]
  · rw [if_neg hc]
    simp (disch := omega) only [m_J9_abs_0f7a4, j_J9_abs_0f7a4_10, lm8, lm2, lm1, l0, l1, l2, l3, l4, l5, l6, l7, l8, l9, l10, l11, l12, l13, l14, l15, l16, l17, l18, l19, l20, l21, l22, l23, l24, l25, l27, l31, l32, l40, l46, l48, l50, l57, l59, l63, l86, l96, l97, l100, l110, l114, l122, l127, l200, l255, l300, l319, l320, l340, l441, l456, l580, l600, l800, l886, l1206, l1526, J_add, J_sub, J_mul, J_neg, J_lt, J_le, J_eq, jT, jF, iT, iF, eT, eF, aT, aF, ite_true, ite_false, ite_not, bs]
theorem CA.areNear (H : CA h o T) (G : QA h g Q) {x : Nat} {k d v : Int} (k0 : 0 ≤ k) (k1 : k < Q 0) (hk : qkT Q k = 1) (hv : vvT T d v) : m_X8_areNear x o g (J k) (J d) (J v) h = some (J (b01 (neB T Q k d v))) := by
  have hb := H.wf.vb hv
  have hl := H.wf.ln hv
  have hq := G.2.1.2 k k0 k1
  have hn := hq.2.2.1 (Or.inl hk)
  have hc : qcT Q k = 2 := by unfold qcT; rw [if_neg (by omega), if_pos hk]
  have hsz := G.2.1.1
  have w0 := hq.2.2.2.2.2.2 0 (by omega) (by omega)
  have w1 := hq.2.2.2.2.2.2 1 (by omega) (by omega)
  have w01 := wide_rg w0.1 w0.2.1
  have w11 := wide_rg w1.1 w1.2.1
  have step : ∀ (a b : Int) (K : Option Int32) (k_ : Int32 → Option Int32), 0 ≤ a → a < lnT T d v → 0 ≤ b → b < lnT T d v → b_X8_areNear_23 o g (J k) (J d) (J v) (J (lnT T d v)) (J a) h K k_ (J b) = if nbB T Q k d v a b = true then some (J 1) else k_ (J (b + 1)) := by
    intro a b K k_ a0 a1 b0 b1
    have pa : ppT T d v a := ⟨hv, a0, a1⟩
    have pb : ppT T d v b := ⟨hv, b0, b1⟩
    have q1 := H.wf.wd pa
    have q2 := wide_rg q1.1 q1.2.1
    have q3 := H.wf.wd pb
    have q4 := wide_rg q3.1 q3.2.1
    have ea : m_J9_abs_0f7a4 (J (a - b)) h = some (J (if 0 ≤ a - b then a - b else -(a - b))) := J9_abs_ok (by omega) (by omega)
    have hx : (if 0 ≤ a - b then a - b else -(a - b)) ≤ 20 ∧ 0 ≤ (if 0 ≤ a - b then a - b else -(a - b)) := by split <;> omega
    have hy : (a - b ≤ qaT Q k ∧ b - a ≤ qaT Q k) ↔ (if 0 ≤ a - b then a - b else -(a - b)) ≤ qaT Q k := by split <;> omega
    generalize (if 0 ≤ a - b then a - b else -(a - b)) = z at *
    by_cases hab : a = b
    · rw [if_neg (by unfold nbB; rw [decide_eq_false (fun q => q.1 hab)]; decide)]
      simp (disch := omega) only [b_X8_areNear_23, j_X8_areNear_94, lm8, lm2, lm1, l0, l1, l2, l3, l4, l5, l6, l7, l8, l9, l10, l11, l12, l13, l14, l15, l16, l17, l18, l19, l20, l21, l22, l23, l24, l25, l27, l31, l32, l40, l46, l48, l50, l57, l59, l63, l86, l96, l97, l100, l110, l114, l122, l127, l200, l255, l300, l319, l320, l340, l441, l456, l580, l600, l800, l886, l1206, l1526, J_add, J_sub, J_mul, J_neg, J_lt, J_le, J_eq, jT, jF, iT, iF, eT, eF, aT, aF, ite_true, ite_false, ite_not, bs]
    · by_cases hz : z ≤ qaT Q k
      · by_cases e0 : wdT T (rwT T d v a) = qwT Q k 0
        · have e0w : wide (wdT T (rwT T d v a)) = wide (qwT Q k 0) := by rw [e0]
          by_cases e1 : wdT T (rwT T d v b) = qwT Q k 1
          · have e1w : wide (wdT T (rwT T d v b)) = wide (qwT Q k 1) := by rw [e1]
            have hyz := hy.mpr hz
            rw [if_pos (by unfold nbB; exact decide_eq_true ⟨hab, hyz.1, hyz.2, e0, e1⟩)]
            simp (disch := first | omega | exact e0w | exact e1w) only [b_X8_areNear_23, j_X8_areNear_94, rc_ok H.tag, rc_ok G.tag, ea, G.number0 k0 k1, H.spellingAt pa, H.spellingAt pb, G.wordOf k0 k1, lm8, lm2, lm1, l0, l1, l2, l3, l4, l5, l6, l7, l8, l9, l10, l11, l12, l13, l14, l15, l16, l17, l18, l19, l20, l21, l22, l23, l24, l25, l27, l31, l32, l40, l46, l48, l50, l57, l59, l63, l86, l96, l97, l100, l110, l114, l122, l127, l200, l255, l300, l319, l320, l340, l441, l456, l580, l600, l800, l886, l1206, l1526, J_add, J_sub, J_mul, J_neg, J_lt, J_le, J_eq, jT, jF, iT, iF, eT, eF, aT, aF, ite_true, ite_false, ite_not, bs]
          · have e1w : wide (wdT T (rwT T d v b)) < wide (qwT Q k 1) ∨ wide (qwT Q k 1) < wide (wdT T (rwT T d v b)) := by
              have : wide (wdT T (rwT T d v b)) ≠ wide (qwT Q k 1) := fun y => e1 (by rw [wide_eq q3 w1] at y; exact y)
              omega
            rw [if_neg (by unfold nbB; rw [decide_eq_false (fun q => e1 q.2.2.2.2)]; decide)]
            simp (disch := first | omega | exact e0w | exact e1w) only [b_X8_areNear_23, j_X8_areNear_94, rc_ok H.tag, rc_ok G.tag, ea, G.number0 k0 k1, H.spellingAt pa, H.spellingAt pb, G.wordOf k0 k1, lm8, lm2, lm1, l0, l1, l2, l3, l4, l5, l6, l7, l8, l9, l10, l11, l12, l13, l14, l15, l16, l17, l18, l19, l20, l21, l22, l23, l24, l25, l27, l31, l32, l40, l46, l48, l50, l57, l59, l63, l86, l96, l97, l100, l110, l114, l122, l127, l200, l255, l300, l319, l320, l340, l441, l456, l580, l600, l800, l886, l1206, l1526, J_add, J_sub, J_mul, J_neg, J_lt, J_le, J_eq, jT, jF, iT, iF, eT, eF, aT, aF, ite_true, ite_false, ite_not, bs]
        · have e0w : wide (wdT T (rwT T d v a)) < wide (qwT Q k 0) ∨ wide (qwT Q k 0) < wide (wdT T (rwT T d v a)) := by
            have : wide (wdT T (rwT T d v a)) ≠ wide (qwT Q k 0) := fun y => e0 (by rw [wide_eq q1 w0] at y; exact y)
            omega
          rw [if_neg (by unfold nbB; rw [decide_eq_false (fun q => e0 q.2.2.2.1)]; decide)]
          simp (disch := first | omega | exact e0w) only [b_X8_areNear_23, j_X8_areNear_94, rc_ok H.tag, rc_ok G.tag, ea, G.number0 k0 k1, H.spellingAt pa, G.wordOf k0 k1, lm8, lm2, lm1, l0, l1, l2, l3, l4, l5, l6, l7, l8, l9, l10, l11, l12, l13, l14, l15, l16, l17, l18, l19, l20, l21, l22, l23, l24, l25, l27, l31, l32, l40, l46, l48, l50, l57, l59, l63, l86, l96, l97, l100, l110, l114, l122, l127, l200, l255, l300, l319, l320, l340, l441, l456, l580, l600, l800, l886, l1206, l1526, J_add, J_sub, J_mul, J_neg, J_lt, J_le, J_eq, jT, jF, iT, iF, eT, eF, aT, aF, ite_true, ite_false, ite_not, bs]
      · rw [if_neg (by unfold nbB; rw [decide_eq_false (fun q => hz (hy.mp ⟨q.2.1, q.2.2.1⟩))]; decide)]
        simp (disch := omega) only [b_X8_areNear_23, j_X8_areNear_94, rc_ok G.tag, ea, G.number0 k0 k1, lm8, lm2, lm1, l0, l1, l2, l3, l4, l5, l6, l7, l8, l9, l10, l11, l12, l13, l14, l15, l16, l17, l18, l19, l20, l21, l22, l23, l24, l25, l27, l31, l32, l40, l46, l48, l50, l57, l59, l63, l86, l96, l97, l100, l110, l114, l122, l127, l200, l255, l300, l319, l320, l340, l441, l456, l580, l600, l800, l886, l1206, l1526, J_add, J_sub, J_mul, J_neg, J_lt, J_le, J_eq, jT, jF, iT, iF, eT, eF, aT, aF, ite_true, ite_false, ite_not, bs]
  have inner : ∀ (a : Int) (K : Option Int32), 0 ≤ a → a < lnT T d v → l_X8_areNear_23 o g (J k) (J d) (J v) (J (lnT T d v)) (J a) h K (J 0) = if anyZ (lnT T d v) (fun b => nbB T Q k d v a b) = true then some (J 1) else K := by
    intro a K a0 a1
    rw [← fiZ_any]
    unfold l_X8_areNear_23
    refine loop_find (fun i => J i) (lnT T d v) (fun b => nbB T Q k d v a b) (fun i => if decide (0 ≤ i) = true then some (J 1) else K) hl.1 (by omega) rfl (fun k_ i hi hi2 hp => ?_) (fun k_ i hi hi2 hp => ?_) (fun k_ => ?_)
    · refine (step a i K _ a0 a1 hi hi2).trans ?_
      rw [if_neg (by rw [hp]; decide)]
    · refine (step a i K _ a0 a1 hi hi2).trans ?_
      rw [if_pos hp, if_pos (decide_eq_true hi)]
    · rw [if_neg (by decide)]
      simp (disch := omega) only [b_X8_areNear_23, lm8, lm2, lm1, l0, l1, l2, l3, l4, l5, l6, l7, l8, l9, l10, l11, l12, l13, l14, l15, l16, l17, l18, l19, l20, l21, l22, l23, l24, l25, l27, l31, l32, l40, l46, l48, l50, l57, l59, l63, l86, l96, l97, l100, l110, l114, l122, l127, l200, l255, l300, l319, l320, l340, l441, l456, l580, l600, l800, l886, l1206, l1526, J_add, J_sub, J_mul, J_neg, J_lt, J_le, J_eq, jT, jF, iT, iF, eT, eF, aT, aF, ite_true, ite_false, ite_not, bs]
  unfold m_X8_areNear neB
  rw [rc_ok H.tag, H.lengthOf hv, bs, ← fiZ_any]
  unfold l_X8_areNear_13
  refine loop_find (fun i => J i) (lnT T d v) (fun a => anyZ (lnT T d v) (fun b => nbB T Q k d v a b)) (fun i => some (J (b01 (decide (0 ≤ i))))) hl.1 (by omega) rfl (fun k_ i hi hi2 hp => ?_) (fun k_ i hi hi2 hp => ?_) (fun k_ => ?_)
  · have e := fun K => inner i K hi hi2
    rw [hp] at e
    simp (disch := omega) only [b_X8_areNear_13, j_X8_areNear_100, e, lm8, lm2, lm1, l0, l1, l2, l3, l4, l5, l6, l7, l8, l9, l10, l11, l12, l13, l14, l15, l16, l17, l18, l19, l20, l21, l22, l23, l24, l25, l27, l31, l32, l40, l46, l48, l50, l57, l59, l63, l86, l96, l97, l100, l110, l114, l122, l127, l200, l255, l300, l319, l320, l340, l441, l456, l580, l600, l800, l886, l1206, l1526, J_add, J_sub, J_mul, J_neg, J_lt, J_le, J_eq, jT, jF, iT, iF, eT, eF, aT, aF, ite_true, ite_false, ite_not, bs]
    rfl
  · have e := fun K => inner i K hi hi2
    rw [hp] at e
    rw [decide_eq_true hi]
    simp (disch := omega) only [b_X8_areNear_13, e, lm8, lm2, lm1, l0, l1, l2, l3, l4, l5, l6, l7, l8, l9, l10, l11, l12, l13, l14, l15, l16, l17, l18, l19, l20, l21, l22, l23, l24, l25, l27, l31, l32, l40, l46, l48, l50, l57, l59, l63, l86, l96, l97, l100, l110, l114, l122, l127, l200, l255, l300, l319, l320, l340, l441, l456, l580, l600, l800, l886, l1206, l1526, J_add, J_sub, J_mul, J_neg, J_lt, J_le, J_eq, jT, jF, iT, iF, eT, eF, aT, aF, ite_true, ite_false, ite_not, bs]
    rfl
  · simp (disch := omega) only [b_X8_areNear_13, lm8, lm2, lm1, l0, l1, l2, l3, l4, l5, l6, l7, l8, l9, l10, l11, l12, l13, l14, l15, l16, l17, l18, l19, l20, l21, l22, l23, l24, l25, l27, l31, l32, l40, l46, l48, l50, l57, l59, l63, l86, l96, l97, l100, l110, l114, l122, l127, l200, l255, l300, l319, l320, l340, l441, l456, l580, l600, l800, l886, l1206, l1526, J_add, J_sub, J_mul, J_neg, J_lt, J_le, J_eq, jT, jF, iT, iF, eT, eF, aT, aF, ite_true, ite_false, ite_not, bs]
    rfl
theorem RM.areNear (H : RM h o T) (G : RQ h o Q) {k d v : Int} (k0 : 0 ≤ k) (k1 : k < Q 0) (hk : qkT Q k = 1) (hv : vvT T d v) : m_X12_areNear o (J k) (J d) (J v) h = some (J (b01 (neB T Q k d v))) := by
  have hb := H.wf.vb hv
  have hl := H.wf.ln hv
  have hq := G.2.1.2 k k0 k1
  have hn := hq.2.2.1 (Or.inl hk)
  have hc : qcT Q k = 2 := by unfold qcT; rw [if_neg (by omega), if_pos hk]
  have hsz := G.2.1.1
  have w0 := hq.2.2.2.2.2.2 0 (by omega) (by omega)
  have w1 := hq.2.2.2.2.2.2 1 (by omega) (by omega)
  have w01 := w0.1
  have w02 := w0.2.1
  have w11 := w1.1
  have w12 := w1.2.1
  have ew0 := G.word (k := k) (i := 0) k0 (by omega) (by omega) (by omega)
  have ew1 := G.word (k := k) (i := 1) k0 (by omega) (by omega) (by omega)
  rw [show (3 : Int) + 0 = 3 from rfl] at ew0
  rw [show (3 : Int) + 1 = 4 from rfl] at ew1
  have body51 : ∀ (c : Bool) (a b z : Int) (K : Int32 → Option Int32) (k_ : Int32 → Int32 → Option Int32), 0 ≤ a → a < lnT T d v → 0 ≤ b → b < lnT T d v → (z = a - b ∧ b ≤ a ∨ z = b - a ∧ a < b) → j_X12_areNear_51 o (J k) (J d) (J v) (J (b01 c)) (J a) (J b) (J z) h K k_ = k_ (J (b01 (c || nbB T Q k d v a b))) (J (b + 1)) := by
    intro c a b z K k_ a0 a1 b0 b1 hz
    have pa : ppT T d v a := ⟨hv, a0, a1⟩
    have pb : ppT T d v b := ⟨hv, b0, b1⟩
    have q1 := H.wf.wd pa
    have q3 := H.wf.wd pb
    cases c
    · rw [Bool.false_or, show b01 false = 0 from rfl]
      have hy : (a ≠ b ∧ a - b ≤ qaT Q k ∧ b - a ≤ qaT Q k) ↔ (1 ≤ z ∧ z ≤ qaT Q k) := by omega
      by_cases hin : 1 ≤ z ∧ z ≤ qaT Q k
      · have ei : m_X12_in (J z) (J 1) (J (qaT Q k)) h = some (J 1) := X12_in_T hin (by omega) (by omega)
        have hyy := hy.mpr hin
        by_cases e0 : wdT T (rwT T d v a) = qwT Q k 0
        · have en : nbB T Q k d v a b = decide (wdT T (rwT T d v b) = qwT Q k 1) := by
            unfold nbB
            exact decide_eq_decide.mpr ⟨fun q => q.2.2.2.2, fun q => ⟨hyy.1, hyy.2.1, hyy.2.2, e0, q⟩⟩
          rw [en]
          simp (disch := omega) only [j_X12_areNear_51, j_X12_areNear_112, rc_ok H.tag, G.na, ei, H.wordAt pa, H.wordAt pb, ew0, ew1, lm8, lm2, lm1, l0, l1, l2, l3, l4, l5, l6, l7, l8, l9, l10, l11, l12, l13, l14, l15, l16, l17, l18, l19, l20, l21, l22, l23, l24, l25, l27, l31, l32, l40, l46, l48, l50, l57, l59, l63, l86, l96, l97, l100, l110, l114, l122, l127, l200, l255, l300, l319, l320, l340, l441, l456, l580, l600, l800, l886, l1206, l1526, J_add, J_sub, J_mul, J_neg, J_lt, J_le, J_eq, jT, jF, iT, iF, eT, eF, aT, aF, ite_true, ite_false, ite_not, bs, ib10]
        · have en : nbB T Q k d v a b = false := by
            unfold nbB
            exact decide_eq_false (fun q => e0 q.2.2.2.1)
          rw [en]
          simp (disch := omega) only [j_X12_areNear_51, j_X12_areNear_112, rc_ok H.tag, G.na, ei, H.wordAt pa, ew0, lm8, lm2, lm1, l0, l1, l2, l3, l4, l5, l6, l7, l8, l9, l10, l11, l12, l13, l14, l15, l16, l17, l18, l19, l20, l21, l22, l23, l24, l25, l27, l31, l32, l40, l46, l48, l50, l57, l59, l63, l86, l96, l97, l100, l110, l114, l122, l127, l200, l255, l300, l319, l320, l340, l441, l456, l580, l600, l800, l886, l1206, l1526, J_add, J_sub, J_mul, J_neg, J_lt, J_le, J_eq, jT, jF, iT, iF, eT, eF, aT, aF, ite_true, ite_false, ite_not, bs]
          rfl
      · have ei : m_X12_in (J z) (J 1) (J (qaT Q k)) h = some (J 0) := X12_in_F (by omega) (by omega) (by omega) (by omega)
        have en : nbB T Q k d v a b = false := by
          unfold nbB
          exact decide_eq_false (fun q => hin (hy.mp ⟨q.1, q.2.1, q.2.2.1⟩))
        rw [en]
        simp (disch := omega) only [j_X12_areNear_51, j_X12_areNear_112, rc_ok H.tag, G.na, ei, lm8, lm2, lm1, l0, l1, l2, l3, l4, l5, l6, l7, l8, l9, l10, l11, l12, l13, l14, l15, l16, l17, l18, l19, l20, l21, l22, l23, l24, l25, l27, l31, l32, l40, l46, l48, l50, l57, l59, l63, l86, l96, l97, l100, l110, l114, l122, l127, l200, l255, l300, l319, l320, l340, l441, l456, l580, l600, l800, l886, l1206, l1526, J_add, J_sub, J_mul, J_neg, J_lt, J_le, J_eq, jT, jF, iT, iF, eT, eF, aT, aF, ite_true, ite_false, ite_not, bs]
        rfl
    · rw [Bool.true_or, show b01 true = 1 from rfl]
      simp (disch := omega) only [j_X12_areNear_51, j_X12_areNear_112, lm8, lm2, lm1, l0, l1, l2, l3, l4, l5, l6, l7, l8, l9, l10, l11, l12, l13, l14, l15, l16, l17, l18, l19, l20, l21, l22, l23, l24, l25, l27, l31, l32, l40, l46, l48, l50, l57, l59, l63, l86, l96, l97, l100, l110, l114, l122, l127, l200, l255, l300, l319, l320, l340, l441, l456, l580, l600, l800, l886, l1206, l1526, J_add, J_sub, J_mul, J_neg, J_lt, J_le, J_eq, jT, jF, iT, iF, eT, eF, aT, aF, ite_true, ite_false, ite_not, bs]
  have inner : ∀ (c : Bool) (a : Int) (K : Int32 → Option Int32), 0 ≤ a → a < lnT T d v → l_X12_areNear_20 o (J k) (J d) (J v) (J a) h K (J (b01 c)) (J 0) = K (J (b01 (c || anyZ (lnT T d v) (fun b => nbB T Q k d v a b)))) := by
    intro c a K a0 a1
    unfold l_X12_areNear_20
    refine loop_int (fun i => (J (b01 (c || anyZ i (fun b => nbB T Q k d v a b))), J i)) (lnT T d v) hl.1 (by omega) (by rw [anyZ_0, Bool.or_false]) (fun k_ i hi hi2 => ?_) (fun k_ => ?_)
    · rw [anyZ_succ hi, ← Bool.or_assoc]
      generalize (c || anyZ i (fun b => nbB T Q k d v a b)) = c2
      by_cases hba : i ≤ a
      · have e := fun K2 k2 => body51 c2 a i (a - i) K2 k2 a0 a1 hi hi2 (Or.inl ⟨rfl, hba⟩)
        simp (disch := omega) only [b_X12_areNear_20, rc_ok H.tag, H.longOf, e, lm8, lm2, lm1, l0, l1, l2, l3, l4, l5, l6, l7, l8, l9, l10, l11, l12, l13, l14, l15, l16, l17, l18, l19, l20, l21, l22, l23, l24, l25, l27, l31, l32, l40, l46, l48, l50, l57, l59, l63, l86, l96, l97, l100, l110, l114, l122, l127, l200, l255, l300, l319, l320, l340, l441, l456, l580, l600, l800, l886, l1206, l1526, J_add, J_sub, J_mul, J_neg, J_lt, J_le, J_eq, jT, jF, iT, iF, eT, eF, aT, aF, ite_true, ite_false, ite_not, bs]
      · have e := fun K2 k2 => body51 c2 a i (i - a) K2 k2 a0 a1 hi hi2 (Or.inr ⟨rfl, by omega⟩)
        simp (disch := omega) only [b_X12_areNear_20, rc_ok H.tag, H.longOf, e, lm8, lm2, lm1, l0, l1, l2, l3, l4, l5, l6, l7, l8, l9, l10, l11, l12, l13, l14, l15, l16, l17, l18, l19, l20, l21, l22, l23, l24, l25, l27, l31, l32, l40, l46, l48, l50, l57, l59, l63, l86, l96, l97, l100, l110, l114, l122, l127, l200, l255, l300, l319, l320, l340, l441, l456, l580, l600, l800, l886, l1206, l1526, J_add, J_sub, J_mul, J_neg, J_lt, J_le, J_eq, jT, jF, iT, iF, eT, eF, aT, aF, ite_true, ite_false, ite_not, bs]
    · simp (disch := omega) only [b_X12_areNear_20, rc_ok H.tag, H.longOf, lm8, lm2, lm1, l0, l1, l2, l3, l4, l5, l6, l7, l8, l9, l10, l11, l12, l13, l14, l15, l16, l17, l18, l19, l20, l21, l22, l23, l24, l25, l27, l31, l32, l40, l46, l48, l50, l57, l59, l63, l86, l96, l97, l100, l110, l114, l122, l127, l200, l255, l300, l319, l320, l340, l441, l456, l580, l600, l800, l886, l1206, l1526, J_add, J_sub, J_mul, J_neg, J_lt, J_le, J_eq, jT, jF, iT, iF, eT, eF, aT, aF, ite_true, ite_false, ite_not, bs]
  unfold m_X12_areNear l_X12_areNear_6 neB
  refine loop_int (fun i => (J (b01 (anyZ i (fun a => anyZ (lnT T d v) (fun b => nbB T Q k d v a b)))), J i)) (lnT T d v) hl.1 (by omega) rfl (fun k_ i hi hi2 => ?_) (fun k_ => ?_)
  · rw [anyZ_succ hi]
    have e := fun c K => inner c i K hi hi2
    simp (disch := omega) only [b_X12_areNear_6, j_X12_areNear_120, rc_ok H.tag, H.longOf, e, lm8, lm2, lm1, l0, l1, l2, l3, l4, l5, l6, l7, l8, l9, l10, l11, l12, l13, l14, l15, l16, l17, l18, l19, l20, l21, l22, l23, l24, l25, l27, l31, l32, l40, l46, l48, l50, l57, l59, l63, l86, l96, l97, l100, l110, l114, l122, l127, l200, l255, l300, l319, l320, l340, l441, l456, l580, l600, l800, l886, l1206, l1526, J_add, J_sub, J_mul, J_neg, J_lt, J_le, J_eq, jT, jF, iT, iF, eT, eF, aT, aF, ite_true, ite_false, ite_not, bs]
  · simp (disch := omega) only [b_X12_areNear_6, j_X12_areNear_126, rc_ok H.tag, H.longOf, zbB, lm8, lm2, lm1, l0, l1, l2, l3, l4, l5, l6, l7, l8, l9, l10, l11, l12, l13, l14, l15, l16, l17, l18, l19, l20, l21, l22, l23, l24, l25, l27, l31, l32, l40, l46, l48, l50, l57, l59, l63, l86, l96, l97, l100, l110, l114, l122, l127, l200, l255, l300, l319, l320, l340, l441, l456, l580, l600, l800, l886, l1206, l1526, J_add, J_sub, J_mul, J_neg, J_lt, J_le, J_eq, jT, jF, iT, iF, eT, eF, aT, aF, ite_true, ite_false, ite_not, bs]
theorem CA.areMany (H : CA h o T) (G : QA h g Q) {x : Nat} {k d v : Int} (k0 : 0 ≤ k) (k1 : k < Q 0) (hk : qkT Q k = 2) (hv : vvT T d v) : m_X8_areMany x o g (J k) (J d) (J v) h = some (J (b01 (decide (qaT Q k ≤ tiT T d v (qwT Q k 0))))) := by
  have hq := G.2.1.2 k k0 k1
  have hn := hq.2.2.1 (Or.inr hk)
  have hc : qcT Q k = 1 := by unfold qcT; rw [if_neg (by omega), if_neg (by omega), if_pos hk]
  have w0 := hq.2.2.2.2.2.2 0 (by omega) (by omega)
  have ht := tiT_rg H.wf hv (w := qwT Q k 0)
  have e := H.timesIn hv w0
  by_cases hge : qaT Q k ≤ tiT T d v (qwT Q k 0)
  · rw [decide_eq_true hge]
    simp (disch := omega) only [m_X8_areMany, j_X8_areMany_28, rc_ok G.tag, G.wordOf k0 k1, G.number0 k0 k1, e, lm8, lm2, lm1, l0, l1, l2, l3, l4, l5, l6, l7, l8, l9, l10, l11, l12, l13, l14, l15, l16, l17, l18, l19, l20, l21, l22, l23, l24, l25, l27, l31, l32, l40, l46, l48, l50, l57, l59, l63, l86, l96, l97, l100, l110, l114, l122, l127, l200, l255, l300, l319, l320, l340, l441, l456, l580, l600, l800, l886, l1206, l1526, J_add, J_sub, J_mul, J_neg, J_lt, J_le, J_eq, jT, jF, iT, iF, eT, eF, aT, aF, ite_true, ite_false, ite_not, bs, zb1]
    rfl
  · rw [decide_eq_false hge]
    simp (disch := omega) only [m_X8_areMany, j_X8_areMany_28, rc_ok G.tag, G.wordOf k0 k1, G.number0 k0 k1, e, lm8, lm2, lm1, l0, l1, l2, l3, l4, l5, l6, l7, l8, l9, l10, l11, l12, l13, l14, l15, l16, l17, l18, l19, l20, l21, l22, l23, l24, l25, l27, l31, l32, l40, l46, l48, l50, l57, l59, l63, l86, l96, l97, l100, l110, l114, l122, l127, l200, l255, l300, l319, l320, l340, l441, l456, l580, l600, l800, l886, l1206, l1526, J_add, J_sub, J_mul, J_neg, J_lt, J_le, J_eq, jT, jF, iT, iF, eT, eF, aT, aF, ite_true, ite_false, ite_not, bs, zb0]
    rfl
end QU
