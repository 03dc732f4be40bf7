/-! PURE PART: in which versions a token is, as bits, both sides -/
theorem setN_lt (n : Nat) (f : Int → Bool) : setN n f < 2 ^ n := by
  induction n with
  | zero => exact Nat.le_refl 1
  | succ n ih =>
    show setN n f ||| _ < 2 ^ (n + 1)
    refine Nat.or_lt_two_pow (Nat.lt_of_lt_of_le ih (Nat.pow_le_pow_right (by decide) (Nat.le_succ n))) ?_
    split
    · exact Nat.pow_lt_pow_right (by decide) (Nat.lt_succ_self n)
    · exact Nat.two_pow_pos _
theorem setN_bit (n : Nat) (f : Int → Bool) (i : Nat) : (setN n f).testBit i = (decide (i < n) && f i) := by
  induction n with
  | zero => simp [setN]
  | succ n ih =>
    show (setN n f ||| _).testBit i = _
    rw [Nat.testBit_or, ih]
    by_cases hi : i = n
    · subst hi
      by_cases hf : f (i : Int) = true
      · rw [if_pos hf, Nat.testBit_two_pow]
        simp [hf]
      · rw [if_neg hf]
        simp [hf]
    · have e : (if f (n : Int) = true then 2 ^ n else 0).testBit i = false := by
        split
        · rw [Nat.testBit_two_pow]
          simp [Ne.symm hi]
        · simp
      rw [e, Bool.or_false]
      by_cases h1 : i < n
      · rw [decide_eq_true h1, decide_eq_true (by omega)]
      · rw [decide_eq_false h1, decide_eq_false (by omega)]
theorem setN_1024 {n : Nat} (f : Int → Bool) (h : n ≤ 10) : setN n f < 1024 := Nat.lt_of_lt_of_le (setN_lt n f) (show 2 ^ n ≤ 2 ^ 10 from Nat.pow_le_pow_right (by decide) h)
theorem setN_T {i : Nat} {f : Int → Bool} (h : i < 10) (hf : f i = true) : J (setN i f : Nat) ||| ishlF (J 1) (J i) = J (setN (i + 1) f : Nat) := by
  have := or_tab i h (setN i f) (setN_1024 f (by omega))
  show _ = J ((setN i f ||| (if f i = true then 2 ^ i else 0) : Nat))
  rw [if_pos hf]
  exact this
theorem setN_F {i : Nat} {f : Int → Bool} (hf : f i = false) : setN (i + 1) f = setN i f := by
  show setN i f ||| (if f i = true then 2 ^ i else 0) = _
  rw [if_neg (by rw [hf]; decide), Nat.or_zero]
theorem inV_iff {T : Int → Int} {d v t : Int} : inV T d v t = true ↔ ∃ q, 0 ≤ q ∧ q < lnT T d v ∧ rwT T d v q = t := by
  unfold inV
  rw [anyZ_iff]
  simp only [decide_eq_true_eq]
theorem plT_cases (T : Int → Int) (d v t : Int) : (plT T d v t = -1 ∧ inV T d v t = false) ∨ (0 ≤ plT T d v t ∧ plT T d v t < lnT T d v ∧ rwT T d v (plT T d v t) = t ∧ inV T d v t = true) := by
  unfold plT
  rcases fiN_spec (lnT T d v).toNat (fun q => decide (rwT T d v q = t)) with ⟨e1, e2⟩ | ⟨i, hi, e1, e2, e3⟩
  · refine Or.inl ⟨e1, ?_⟩
    cases hc : inV T d v t
    · rfl
    · obtain ⟨q, h0, h1, h2⟩ := inV_iff.mp hc
      have := e2 q.toNat (by omega)
      rw [Int.toNat_of_nonneg h0, h2] at this
      simp at this
  · rw [e1]
    have he : rwT T d v i = t := by simpa using e2
    exact Or.inr ⟨by omega, by omega, he, inV_iff.mpr ⟨i, by omega, by omega, he⟩⟩
theorem stT_lt {T : Int → Int} (W : AW T) {t : Int} (h0 : 0 ≤ t) (h1 : t < T 5) : stT T t < 1024 := by
  have h2 := W.2.2.2.2.2.2.2 t h0 h1
  have h3 := W.nv (d := owT T t) (by omega) (by have := W.n0; omega)
  exact setN_1024 _ (by omega)
section ST
variable {h : Hp} {o : Nat} {T : Int → Int}
theorem CA.stayOf (H : CA h o T) {t : Int} (h0 : 0 ≤ t) (h1 : t < T 5) : m_X0_stayOf o (J t) h = some (J (stT T t : Nat)) := by
  have := H.wf.2.2.2.1
  rw [X0_stayOf_at H.1 (by omega) (by omega), atE_in h0 (by omega), (H.2.2.2.2.2.2.2 t h0 h1).2.2]
theorem CA.ownerOf (H : CA h o T) {t : Int} (h0 : 0 ≤ t) (h1 : t < T 5) : m_X0_ownerOf o (J t) h = some (J (owT T t)) := by
  have := H.wf.2.2.2.1
  rw [X0_ownerOf_at H.1 (by omega) (by omega), atE_in h0 (by omega), (H.2.2.2.2.2.2.2 t h0 h1).2.1]
theorem RM.whereIs (H : RM h o T) {t : Int} (h0 : 0 ≤ t) (h1 : t < T 5) : m_X12_whereIs o (J t) h = some (J (stT T t : Nat)) := by
  have h5 := H.wf.n5
  have hn := H.wf.n0
  have h2 := H.wf.2.2.2.2.2.2.2 t h0 h1
  have h3 := H.wf.nv (d := owT T t) (by omega) (by omega)
  unfold m_X12_whereIs
  simp (disch := omega) only [H.1.r18, H.told, lm8, lm2, lm1, l0, l1, l2, l3, l4, l5, l6, l7, l8, l9, l10, l11, l12, l13, l14, l15, l16, l17, l18, l19, l20, l21, l22, l23, l24, l25, l27, l31, l32, l40, l46, l48, l50, l57, l59, l63, l86, l96, l97, l100, l110, l114, l122, l127, l200, l255, l300, l319, l320, l340, l441, l456, l580, l600, l800, l886, l1206, l1526, J_add, J_sub, J_mul, J_neg, J_lt, J_le, J_eq, jT, jF, iT, iF, eT, eF, aT, aF, ite_true, ite_false, ite_not, bS]
  show l_X12_whereIs_16 o (J t) (J (owT T t)) h (J 0) (J 0) = _
  unfold l_X12_whereIs_16 stT
  refine loop_run (fun i => (J (setN i (fun v => inV T (owT T t) v t) : Nat), J i)) (T (1 + owT T t)).toNat (lt_FUEL (by omega)) (fun k i hi => ?_) (fun k => ?_)
  · have hv : vvT T (owT T t) i := ⟨by omega, by omega, by omega, by omega⟩
    rcases plT_cases T (owT T t) i t with ⟨e1, e2⟩ | ⟨e1, e2, e3, e4⟩
    · simp (disch := first | omega | exact hv) only [b_X12_whereIs_16, j_X12_whereIs_47, rc_ok H.tag, H.versions, H.placeOf hv, lm8, lm2, lm1, l0, l1, l2, l3, l4, l5, l6, l7, l8, l9, l10, l11, l12, l13, l14, l15, l16, l17, l18, l19, l20, l21, l22, l23, l24, l25, l27, l31, l32, l40, l46, l48, l50, l57, l59, l63, l86, l96, l97, l100, l110, l114, l122, l127, l200, l255, l300, l319, l320, l340, l441, l456, l580, l600, l800, l886, l1206, l1526, J_add, J_sub, J_mul, J_neg, J_lt, J_le, J_eq, jT, jF, iT, iF, eT, eF, aT, aF, ite_true, ite_false, ite_not, bS, J_or0, Int.natCast_add, Int.cast_ofNat_Int]
      rw [setN_F (f := fun v => inV T (owT T t) v t) e2]
    · have hl := H.wf.ln hv
      simp (disch := first | omega | exact hv) only [b_X12_whereIs_16, j_X12_whereIs_47, rc_ok H.tag, H.versions, H.placeOf hv, lm8, lm2, lm1, l0, l1, l2, l3, l4, l5, l6, l7, l8, l9, l10, l11, l12, l13, l14, l15, l16, l17, l18, l19, l20, l21, l22, l23, l24, l25, l27, l31, l32, l40, l46, l48, l50, l57, l59, l63, l86, l96, l97, l100, l110, l114, l122, l127, l200, l255, l300, l319, l320, l340, l441, l456, l580, l600, l800, l886, l1206, l1526, J_add, J_sub, J_mul, J_neg, J_lt, J_le, J_eq, jT, jF, iT, iF, eT, eF, aT, aF, ite_true, ite_false, ite_not, bS, Int.natCast_add, Int.cast_ofNat_Int]
      rw [setN_T (f := fun v => inV T (owT T t) v t) (by omega) e4]
  · simp (disch := omega) only [b_X12_whereIs_16, rc_ok H.tag, H.versions, lm8, lm2, lm1, l0, l1, l2, l3, l4, l5, l6, l7, l8, l9, l10, l11, l12, l13, l14, l15, l16, l17, l18, l19, l20, l21, l22, l23, l24, l25, l27, l31, l32, l40, l46, l48, l50, l57, l59, l63, l86, l96, l97, l100, l110, l114, l122, l127, l200, l255, l300, l319, l320, l340, l441, l456, l580, l600, l800, l886, l1206, l1526, J_add, J_sub, J_mul, J_neg, J_lt, J_le, J_eq, jT, jF, iT, iF, eT, eF, aT, aF, ite_true, ite_false, ite_not, bS, Int.toNat_of_nonneg]
end ST
