/-! PURE PART: an archive as a row of integers; what of the class's Archive shows it -/
def ddT (T : Int → Int) (d : Int) : Prop := 0 ≤ d ∧ d < T 0
def vvT (T : Int → Int) (d v : Int) : Prop := 0 ≤ d ∧ d < T 0 ∧ 0 ≤ v ∧ v < T (1 + d)
def lnT (T : Int → Int) (d v : Int) : Int := T (46 + (10 * d + v))
def rwT (T : Int → Int) (d v q : Int) : Int := T (86 + 20 * (10 * d + v) + q)
def wdT (T : Int → Int) (t : Int) : Int := T (886 + t)
def owT (T : Int → Int) (t : Int) : Int := T (1206 + t)
def dtT (T : Int → Int) (d v : Int) : Int := T (6 + (10 * d + v))
def ppT (T : Int → Int) (d v q : Int) : Prop := vvT T d v ∧ 0 ≤ q ∧ q < lnT T d v
/-- a token is in a version -/
def inV (T : Int → Int) (d v t : Int) : Bool := anyZ (lnT T d v) (fun q => decide (rwT T d v q = t))
/-- the row is that of an archive -/
def AW (T : Int → Int) : Prop := (0 ≤ T 0 ∧ T 0 ≤ 4) ∧ (∀ d, 0 ≤ d → d < T 0 → 1 ≤ T (1 + d) ∧ T (1 + d) ≤ 10) ∧ (∀ d, T 0 ≤ d → d < 4 → T (1 + d) = 0) ∧ (0 ≤ T 5 ∧ T 5 ≤ 319) ∧ (∀ d v, vvT T d v → 0 ≤ lnT T d v ∧ lnT T d v ≤ 20) ∧ (∀ d v q, ppT T d v q → 0 ≤ rwT T d v q ∧ rwT T d v q < T 5 ∧ owT T (rwT T d v q) = d) ∧ (∀ d v q r, ppT T d v q → ppT T d v r → rwT T d v q = rwT T d v r → q = r) ∧ (∀ t, 0 ≤ t → t < T 5 → 0 ≤ owT T t ∧ owT T t < T 0 ∧ 1 ≤ wdT T t ∧ wdT T t < 531441 ∧ wdT T t % 27 ≠ 0 ∧ ∃ v, vvT T (owT T t) v ∧ inV T (owT T t) v t = true)
/-- a word of up to four letters, with none behind it -/
def wide (w : Int) : Int := if w < 27 then w * 19683 else if w < 729 then w * 729 else if w < 19683 then w * 27 else w
/-- a set of versions, as bits -/
def setN : Nat → (Int → Bool) → Nat
  | 0, _ => 0
  | n + 1, f => setN n f ||| (if f n = true then 2 ^ n else 0)
def stT (T : Int → Int) (t : Int) : Nat := setN (T (1 + owT T t)).toNat (fun v => inV T (owT T t) v t)
/-- the class's Archive at o shows T -/
def CA (h : Hp) (o : Nat) (T : Int → Int) : Prop := TA (top h) o ∧ AW T ∧ hE h o 0 = T 0 ∧ hE h o 1 = T 5 ∧ (∀ d, 0 ≤ d → d < 4 → hE h (o + 1) d = T (1 + d)) ∧ (∀ d v, vvT T d v → hE h (o + 3) (d * 10 + v) = lnT T d v) ∧ (∀ d v q, ppT T d v q → hE h (o + 4) ((d * 10 + v) * 20 + q) = rwT T d v q) ∧ (∀ t, 0 ≤ t → t < T 5 → hE h (o + 5) t = wide (wdT T t) ∧ hE h (o + 6) t = owT T t ∧ hE h (o + 7) t = stT T t)
section CR
variable {h : Hp} {o : Nat} {T : Int → Int}
theorem AW.n0 (H : AW T) : 0 ≤ T 0 ∧ T 0 ≤ 4 := H.1
theorem AW.nv (H : AW T) {d : Int} (h0 : 0 ≤ d) (h1 : d < 4) : 0 ≤ T (1 + d) ∧ T (1 + d) ≤ 10 := by
  by_cases hd : d < T 0
  · have := H.2.1 d h0 hd
    omega
  · have := H.2.2.1 d (by omega) h1
    omega
theorem AW.vb (H : AW T) {d v : Int} (hv : vvT T d v) : 0 ≤ d ∧ d < 4 ∧ 0 ≤ v ∧ v < 10 := by
  have h1 := H.1
  obtain ⟨h2, h3, h4, h5⟩ := hv
  have := H.2.1 d h2 h3
  omega
theorem CA.wf (H : CA h o T) : AW T := H.2.1
theorem CA.f0 (H : CA h o T) : gfI h o 1 0 = some (J (T 0)) := by rw [TA.f0 H.1, H.2.2.1]
theorem CA.f1 (H : CA h o T) : gfI h o 1 1 = some (J (T 5)) := by rw [TA.f1 H.1, H.2.2.2.1]
theorem CA.tag (H : CA h o T) : hTag h o = 1 := H.1.1
theorem CA.versionsOf (H : CA h o T) {d : Int} (h0 : 0 ≤ d) (h1 : d < 4) : m_X0_versionsOf o (J d) h = some (J (T (1 + d))) := by
  rw [X0_versionsOf_at H.1 (by omega) (by omega), atE_in h0 (by omega), H.2.2.2.2.1 d h0 h1]
theorem CA.lengthOf (H : CA h o T) {d v : Int} (hv : vvT T d v) : m_X0_lengthOf o (J d) (J v) h = some (J (lnT T d v)) := by
  have := H.wf.vb hv
  rw [X0_lengthOf_at H.1 (by omega) (by omega), atE_in (by omega) (by omega), H.2.2.2.2.2.1 d v hv]
theorem CA.tokenAt (H : CA h o T) {d v q : Int} (hv : ppT T d v q) : m_X0_tokenAt o (J d) (J v) (J q) h = some (J (rwT T d v q)) := by
  have := H.wf.vb hv.1
  have := H.wf.2.2.2.2.1 d v hv.1
  have := hv.2
  rw [X0_tokenAt_at H.1 (by omega) (by omega), atE_in (by omega) (by omega), H.2.2.2.2.2.2.1 d v q hv]
theorem CA.spellingAt (H : CA h o T) {d v q : Int} (hv : ppT T d v q) : m_X0_spellingAt o (J d) (J v) (J q) h = some (J (wide (wdT T (rwT T d v q)))) := by
  have := H.wf.vb hv.1
  have := H.wf.2.2.2.2.1 d v hv.1
  have h5 := H.wf.2.2.2.1
  have hr := H.wf.2.2.2.2.2.1 d v q hv
  have := hv.2
  rw [X0_spellingAt_at H.1 (by omega) (by omega), atE_in (i := (d * 10 + v) * 20 + q) (by omega) (by omega), H.2.2.2.2.2.2.1 d v q hv, atE_in (by omega) (by omega), (H.2.2.2.2.2.2.2 _ hr.1 hr.2.1).1]
theorem CA.all (H : CA h o T) : m_X0_versionsOfAll o h = some (J (sumZ (T 0) (fun d => T (1 + d)))) := by
  have h0 := H.wf.n0
  unfold m_X0_versionsOfAll l_X0_versionsOfAll_4
  refine loop_run (fun i => (J (sumZ i (fun d => T (1 + d))), J i)) (T 0).toNat (lt_FUEL (by omega)) (fun k i hi => ?_) (fun k => ?_)
  · simp (disch := omega) only [b_X0_versionsOfAll_4, H.f0, rc_ok H.tag, H.versionsOf, lm8, lm2, lm1, l0, l1, l2, l3, l4, l5, l6, l7, l8, l9, l10, l11, l12, l13, l14, l15, l16, l17, l18, l19, l20, l21, l22, l23, l24, l25, l27, l31, l32, l40, l46, l48, l50, l57, l59, l63, l86, l96, l97, l100, l110, l114, l122, l127, l200, l255, l300, l319, l320, l340, l441, l456, l580, l600, l800, l886, l1206, l1526, J_add, J_sub, J_mul, J_neg, J_lt, J_le, J_eq, jT, jF, iT, iF, eT, eF, aT, aF, ite_true, ite_false, ite_not, bS, sumZ_succ, Int.natCast_add, Int.cast_ofNat_Int]
  · simp (disch := omega) only [b_X0_versionsOfAll_4, H.f0, lm8, lm2, lm1, l0, l1, l2, l3, l4, l5, l6, l7, l8, l9, l10, l11, l12, l13, l14, l15, l16, l17, l18, l19, l20, l21, l22, l23, l24, l25, l27, l31, l32, l40, l46, l48, l50, l57, l59, l63, l86, l96, l97, l100, l110, l114, l122, l127, l200, l255, l300, l319, l320, l340, l441, l456, l580, l600, l800, l886, l1206, l1526, J_add, J_sub, J_mul, J_neg, J_lt, J_le, J_eq, jT, jF, iT, iF, eT, eF, aT, aF, ite_true, ite_false, ite_not, bS, Int.toNat_of_nonneg]
theorem CA.size (H : CA h o T) {x : Nat} : m_X2_size x o h = some (J (sumZ (T 0) (fun d => sumZ (T (1 + d)) (fun v => lnT T d v)))) := by
  have h0 := H.wf.n0
  have inner : ∀ (d : Int) (K : Int32 → Option Int32) (a : Int), 0 ≤ d → d < T 0 → l_X2_size_15 o (J d) h K (J a) (J 0) = K (J (a + sumZ (T (1 + d)) (fun v => lnT T d v))) := by
    intro d K a hd hd2
    have hn := H.wf.nv hd (by omega)
    unfold l_X2_size_15
    refine loop_to (fun i => (J (a + sumZ i (fun v => lnT T d v)), J i)) (T (1 + d)).toNat (by simp [sumZ_0]) (lt_FUEL (by omega)) (fun k i hi => ?_) (fun k => ?_)
    · have hv : vvT T d i := ⟨hd, hd2, by omega, by omega⟩
      simp (disch := omega) only [b_X2_size_15, rc_ok H.tag, H.versionsOf, H.lengthOf hv, lm8, lm2, lm1, l0, l1, l2, l3, l4, l5, l6, l7, l8, l9, l10, l11, l12, l13, l14, l15, l16, l17, l18, l19, l20, l21, l22, l23, l24, l25, l27, l31, l32, l40, l46, l48, l50, l57, l59, l63, l86, l96, l97, l100, l110, l114, l122, l127, l200, l255, l300, l319, l320, l340, l441, l456, l580, l600, l800, l886, l1206, l1526, J_add, J_sub, J_mul, J_neg, J_lt, J_le, J_eq, jT, jF, iT, iF, eT, eF, aT, aF, ite_true, ite_false, ite_not, bS, sumZ_succ, Int.natCast_add, Int.cast_ofNat_Int, Int.add_assoc]
    · simp (disch := omega) only [b_X2_size_15, rc_ok H.tag, H.versionsOf, lm8, lm2, lm1, l0, l1, l2, l3, l4, l5, l6, l7, l8, l9, l10, l11, l12, l13, l14, l15, l16, l17, l18, l19, l20, l21, l22, l23, l24, l25, l27, l31, l32, l40, l46, l48, l50, l57, l59, l63, l86, l96, l97, l100, l110, l114, l122, l127, l200, l255, l300, l319, l320, l340, l441, l456, l580, l600, l800, l886, l1206, l1526, J_add, J_sub, J_mul, J_neg, J_lt, J_le, J_eq, jT, jF, iT, iF, eT, eF, aT, aF, ite_true, ite_false, ite_not, bS, Int.toNat_of_nonneg]
  unfold m_X2_size l_X2_size_4
  refine loop_run (fun i => (J (sumZ i (fun d => sumZ (T (1 + d)) (fun v => lnT T d v))), J i)) (T 0).toNat (lt_FUEL (by omega)) (fun k i hi => ?_) (fun k => ?_)
  · simp (disch := omega) only [b_X2_size_4, H.f0, lm8, lm2, lm1, l0, l1, l2, l3, l4, l5, l6, l7, l8, l9, l10, l11, l12, l13, l14, l15, l16, l17, l18, l19, l20, l21, l22, l23, l24, l25, l27, l31, l32, l40, l46, l48, l50, l57, l59, l63, l86, l96, l97, l100, l110, l114, l122, l127, l200, l255, l300, l319, l320, l340, l441, l456, l580, l600, l800, l886, l1206, l1526, J_add, J_sub, J_mul, J_neg, J_lt, J_le, J_eq, jT, jF, iT, iF, eT, eF, aT, aF, ite_true, ite_false, ite_not, bS, inner, j_X2_size_41, sumZ_succ, Int.natCast_add, Int.cast_ofNat_Int]
  · simp (disch := omega) only [b_X2_size_4, H.f0, lm8, lm2, lm1, l0, l1, l2, l3, l4, l5, l6, l7, l8, l9, l10, l11, l12, l13, l14, l15, l16, l17, l18, l19, l20, l21, l22, l23, l24, l25, l27, l31, l32, l40, l46, l48, l50, l57, l59, l63, l86, l96, l97, l100, l110, l114, l122, l127, l200, l255, l300, l319, l320, l340, l441, l456, l580, l600, l800, l886, l1206, l1526, J_add, J_sub, J_mul, J_neg, J_lt, J_le, J_eq, jT, jF, iT, iF, eT, eF, aT, aF, ite_true, ite_false, ite_not, bS, Int.toNat_of_nonneg]
end CR
