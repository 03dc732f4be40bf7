/-! PURE PART: what can't be of a line, the class -/
section CN
variable {h : Hp} {r : Nat} {B : Int → Int} {L f k e own : Int}
theorem bnU_le {n : Nat} : bnU B L f k own n ≤ 9999 := by
  induction n with
  | zero => exact Int.le_refl _
  | succ n ih => show min (bnU B L f k own n) _ ≤ 9999; omega
theorem bnU_all {n : Nat} (h : bnU B L f k own n = 9999) : ∀ j : Nat, j < n → bnE B L f k own j ≥ 9999 := by
  induction n with
  | zero => exact fun j hj => absurd hj (Nat.not_lt_zero _)
  | succ n ih =>
    have h2 : min (bnU B L f k own n) (bnE B L f k own n) = 9999 := h
    have := bnU_le (B := B) (L := L) (f := f) (k := k) (own := own) (n := n)
    intro j hj
    by_cases q : j = n
    · rw [q]
      omega
    · exact ih (by omega) j (by omega)
/-- no fault: all numbers can be -/
theorem e2n_ok (W : LnW B L f k) (h : e2n B L f k own = 9999) {j : Int} (j0 : 0 ≤ j) (j1 : j < nCk k) : loV k j ≤ viF B L f k j ∧ viF B L f k j ≤ hiV k own j := by
  have a := bnU_all (n := (nCk k).toNat) h j.toNat (by omega)
  rw [show ((j.toNat : Nat) : Int) = j by omega] at a
  have n := W.num j0 j1
  unfold bnE at a
  by_cases c : viF B L f k j < loV k j ∨ hiV k own j < viF B L f k j
  · rw [if_pos c] at a
    omega
  · omega
theorem bnE_le (W : LnW B L f k) {j : Int} (j0 : 0 ≤ j) (j1 : j < nCk k) : bnE B L f k own j ≤ 9999 := by
  have n := W.num j0 j1
  unfold bnE
  split <;> omega
theorem LnP.notBe (P : LnP h (r + 1) B L f k) (T : TRd (top h) r) (W : LnW B L f k) (E : ENc h r e) (hq : hE h (r + 16) 0 = own) (o0 : 0 ≤ own) (o1 : own ≤ 8) : ∃ h', m_X7_noteWhatCanNotBe r h = some h' ∧ FR (Afc r) h h' ∧ ENc h' r (min e (min (e2n B L f k own) (e2w B L f k))) := by
  have kr := kk_rg k
  have hw := W.1
  have lpf : ∀ g, FR (Afc r) h g → LnP g (r + 1) B L f k := fun g F => P.frame F (fun b k b0 b1 => by unfold Afc; omega)
  obtain ⟨s, ⟨g, rfl, F, G⟩, el⟩ := loop_ex (body := fun (k_ : Int32 × Hp → Option Hp) (s : Int32 × Hp) => b_X7_noteWhatCanNotBe_2 r (fun hz1 => j_X7_noteWhatCanNotBe_67 r hz1) (fun v1q hq => k_ (v1q, hq)) s.1 s.2) (s := (J 0, h)) (fun i s => ∃ g, s = (J i, g) ∧ FR (Afc r) h g ∧ ENc g r (min e (bnU B L f k own i.toNat))) (fun s => j_X7_noteWhatCanNotBe_67 r s.2) (nCk k) (by omega) (by omega) ⟨h, rfl, FR.refl _ _, by
      have := E.le
      rw [show min e (bnU B L f k own (0 : Int).toNat) = e by show min e 9999 = e; omega]
      exact E⟩ (by
    rintro k_ i s i0 i1 ⟨g, rfl, F, G⟩
    have P' := lpf g F
    have T' := T.fr F
    have el := X7_least_ok T' P' W i0 (by omega)
    have eh := X7_most_ok T' P' W (own := own) (by rw [F.e (by unfold Afc; omega), hq]) o0 o1 i0 i1
    have ev := P'.value i0 i1
    have ep := P'.place i0 i1
    have r6 : gfR g (r + 1) 5 6 = some (r + 1 + 2) := gfR_ok P'.1.1.1 P'.1.1.2.2.1.1
    have n := W.num i0 i1
    have lo : 0 ≤ loV k i ∧ loV k i ≤ 1 := by unfold loV; split <;> omega
    have hi : -1 ≤ hiV k own i ∧ hiV k own i ≤ 20 := by unfold hiV; repeat' split
                                                        all_goals omega
    have eb : bnU B L f k own (i + 1).toNat = min (bnU B L f k own i.toNat) (bnE B L f k own i) := by
      rw [show (i + 1).toNat = i.toNat + 1 by omega]
      show min _ (bnE B L f k own ((i.toNat : Nat) : Int)) = _
      rw [show ((i.toNat : Nat) : Int) = i by omega]
    have eB : bnE B L f k own i = if viF B L f k i < loV k i ∨ hiV k own i < viF B L f k i then 8 * vpF B L f k i + 2 else 9999 := rfl
    have gl := G.le
    generalize viF B L f k i = v at *
    generalize loV k i = lo_ at *
    generalize hiV k own i = hi_ at *
    by_cases c : v < lo_ ∨ hi_ < v
    · rw [if_pos c] at eB
      obtain ⟨g', e1, F1, G1⟩ := G.note T'.tag (s' := 2) (p' := vpF B L f k i) (by omega) (by omega) (by omega) (by omega)
      refine ⟨(J (i + 1), g'), ⟨g', rfl, F.trans F1, ?_⟩, ?_⟩
      · rw [eb, eB, show min e (min (bnU B L f k own i.toNat) (8 * vpF B L f k i + 2)) = min (min e (bnU B L f k own i.toNat)) (8 * vpF B L f k i + 2) by omega]
        exact G1
      · show b_X7_noteWhatCanNotBe_2 r (fun hz1 => j_X7_noteWhatCanNotBe_67 r hz1) (fun v1q hq => k_ (v1q, hq)) (J i) g = _
        by_cases c1 : v < lo_
        · simp (disch := omega) only [b_X7_noteWhatCanNotBe_2, j_X7_noteWhatCanNotBe_45, j_X7_noteWhatCanNotBe_61, T'.r0, P'.f2, rc_ok P'.tag, rc_ok T'.tag, ev, el, r6, ep, e1, lm8, lm2, lm1, l0, l1, l2, l3, l4, l5, l6, l7, l8, l9, l10, l11, l12, l13, l14, l15, l16, l17, l18, l19, l20, l21, l22, l23, l24, l25, l27, l31, l32, l40, l46, l48, l50, l57, l59, l63, l86, l96, l97, l100, l110, l114, l122, l127, l200, l255, l300, l319, l320, l340, l441, l456, l580, l600, l800, l886, l1206, l1526, J_add, J_sub, J_mul, J_neg, J_lt, J_le, J_eq, jT, jF, iT, iF, eT, eF, aT, aF, ite_true, ite_false, ite_not, bs]
        · simp (disch := omega) only [b_X7_noteWhatCanNotBe_2, j_X7_noteWhatCanNotBe_45, j_X7_noteWhatCanNotBe_61, T'.r0, P'.f2, rc_ok P'.tag, rc_ok T'.tag, ev, el, eh, r6, ep, e1, lm8, lm2, lm1, l0, l1, l2, l3, l4, l5, l6, l7, l8, l9, l10, l11, l12, l13, l14, l15, l16, l17, l18, l19, l20, l21, l22, l23, l24, l25, l27, l31, l32, l40, l46, l48, l50, l57, l59, l63, l86, l96, l97, l100, l110, l114, l122, l127, l200, l255, l300, l319, l320, l340, l441, l456, l580, l600, l800, l886, l1206, l1526, J_add, J_sub, J_mul, J_neg, J_lt, J_le, J_eq, jT, jF, iT, iF, eT, eF, aT, aF, ite_true, ite_false, ite_not, bs]
    · rw [if_neg c] at eB
      refine ⟨(J (i + 1), g), ⟨g, rfl, F, ?_⟩, ?_⟩
      · rw [eb, eB, show min e (min (bnU B L f k own i.toNat) 9999) = min e (bnU B L f k own i.toNat) by omega]
        exact G
      · show b_X7_noteWhatCanNotBe_2 r (fun hz1 => j_X7_noteWhatCanNotBe_67 r hz1) (fun v1q hq => k_ (v1q, hq)) (J i) g = _
        simp (disch := omega) only [b_X7_noteWhatCanNotBe_2, j_X7_noteWhatCanNotBe_61, T'.r0, P'.f2, rc_ok P'.tag, rc_ok T'.tag, ev, el, eh, lm8, lm2, lm1, l0, l1, l2, l3, l4, l5, l6, l7, l8, l9, l10, l11, l12, l13, l14, l15, l16, l17, l18, l19, l20, l21, l22, l23, l24, l25, l27, l31, l32, l40, l46, l48, l50, l57, l59, l63, l86, l96, l97, l100, l110, l114, l122, l127, l200, l255, l300, l319, l320, l340, l441, l456, l580, l600, l800, l886, l1206, l1526, J_add, J_sub, J_mul, J_neg, J_lt, J_le, J_eq, jT, jF, iT, iF, eT, eF, aT, aF, ite_true, ite_false, ite_not, bs]) (by
    rintro k_ s ⟨g, rfl, F, G⟩
    have P' := lpf g F
    have T' := T.fr F
    show b_X7_noteWhatCanNotBe_2 r (fun hz1 => j_X7_noteWhatCanNotBe_67 r hz1) (fun v1q hq => k_ (v1q, hq)) (J (nCk k)) g = _
    simp (disch := omega) only [b_X7_noteWhatCanNotBe_2, T'.r0, P'.f2, lm8, lm2, lm1, l0, l1, l2, l3, l4, l5, l6, l7, l8, l9, l10, l11, l12, l13, l14, l15, l16, l17, l18, l19, l20, l21, l22, l23, l24, l25, l27, l31, l32, l40, l46, l48, l50, l57, l59, l63, l86, l96, l97, l100, l110, l114, l122, l127, l200, l255, l300, l319, l320, l340, l441, l456, l580, l600, l800, l886, l1206, l1526, J_add, J_sub, J_mul, J_neg, J_lt, J_le, J_eq, jT, jF, iT, iF, eT, eF, aT, aF, ite_true, ite_false, ite_not, bs])
  have P' := lpf g F
  have T' := T.fr F
  have hl : m_X7_noteWhatCanNotBe r h = j_X7_noteWhatCanNotBe_67 r g := el
  rw [hl]
  have gl := G.le
  have e2 : e2w B L f k = if msF B L f k (nwF B L f k) = -1 then 9999 else 8 * msF B L f k (nwF B L f k) + 2 := rfl
  have e2_ : bnU B L f k own (nCk k).toNat = e2n B L f k own := rfl
  rw [e2_] at G gl
  have m := W.ms
  have f4 := P'.f4
  generalize msF B L f k (nwF B L f k) = ms at *
  by_cases c : ms = -1
  · rw [if_pos c] at e2
    rw [c] at f4
    refine ⟨g, ?_, F, ?_⟩
    · simp (disch := omega) only [j_X7_noteWhatCanNotBe_67, T'.r0, f4, lm8, lm2, lm1, l0, l1, l2, l3, l4, l5, l6, l7, l8, l9, l10, l11, l12, l13, l14, l15, l16, l17, l18, l19, l20, l21, l22, l23, l24, l25, l27, l31, l32, l40, l46, l48, l50, l57, l59, l63, l86, l96, l97, l100, l110, l114, l122, l127, l200, l255, l300, l319, l320, l340, l441, l456, l580, l600, l800, l886, l1206, l1526, J_add, J_sub, J_mul, J_neg, J_lt, J_le, J_eq, jT, jF, iT, iF, eT, eF, aT, aF, ite_true, ite_false, ite_not, bs]
    · rw [e2, show min e (min (e2n B L f k own) 9999) = min e (e2n B L f k own) by omega]
      exact G
  · rw [if_neg c] at e2
    have c' : ms < -1 ∨ -1 < ms := by omega
    obtain ⟨g', e1, F1, G1⟩ := G.note T'.tag (s' := 2) (p' := ms) (by omega) (by omega) (by omega) (by omega)
    refine ⟨g', ?_, F.trans F1, ?_⟩
    · simp (disch := first | omega | exact c') only [j_X7_noteWhatCanNotBe_67, T'.r0, f4, rc_ok T'.tag, e1, lm8, lm2, lm1, l0, l1, l2, l3, l4, l5, l6, l7, l8, l9, l10, l11, l12, l13, l14, l15, l16, l17, l18, l19, l20, l21, l22, l23, l24, l25, l27, l31, l32, l40, l46, l48, l50, l57, l59, l63, l86, l96, l97, l100, l110, l114, l122, l127, l200, l255, l300, l319, l320, l340, l441, l456, l580, l600, l800, l886, l1206, l1526, J_add, J_sub, J_mul, J_neg, J_lt, J_le, J_eq, jT, jF, iT, iF, eT, eF, aT, aF, ite_true, ite_false, ite_not, bs]
    · rw [e2, show min e (min (e2n B L f k own) (8 * ms + 2)) = min (min e (e2n B L f k own)) (8 * ms + 2) by omega]
      exact G1
/-- too many words -/
theorem LnP.tooMany (P : LnP h (r + 1) B L f k) (T : TRd (top h) r) (W : LnW B L f k) (E : ENc h r e) {m : Int} (m0 : 0 ≤ m) (m1 : m ≤ 20) : ∃ h', m_X7_noteTooManyWords r (J m) h = some h' ∧ FR (Afc r) h h' ∧ ENc h' r (min e (e3w B L f k m)) := by
  have kr := kk_rg k
  have le := E.le
  have ex := ex_spec (B := B) (k := k) W.1.2.2 W.1.1 W.1.2.1
  have r8 : gfR h (r + 1) 5 8 = some (r + 1 + 4) := gfR_ok P.1.1.1 P.1.1.2.2.2.2.1
  have nb : 0 ≤ nwF B L f k ∧ nwF B L f k ≤ 700 := by unfold nwF; omega
  unfold e3w
  have f3 := P.f3
  by_cases c : m < nwF B L f k
  · rw [if_pos c]
    have w := W.wrd m0 c
    have h6 := W.1.2.2
    have ep : m_X5_at (r + 1 + 4) (J m) h = some (J (wpF B L f k m)) := by
      rw [X5_at_ok P.1.1.2.2.2.2.2 (by omega) (by omega) (by omega), atE_in m0 (by omega), (P.1.2.2.2.2.2.2 m m0 c (by omega)).2]
    have h0 := W.1.1
    obtain ⟨g', e1, F1, G1⟩ := E.note T.tag (s' := 3) (p' := wpF B L f k m) (by omega) (by omega) (by omega) (by omega)
    refine ⟨g', ?_, F1, G1⟩
    simp (disch := omega) only [m_X7_noteTooManyWords, T.r0, f3, r8, ep, rc_ok T.tag, e1, lm8, lm2, lm1, l0, l1, l2, l3, l4, l5, l6, l7, l8, l9, l10, l11, l12, l13, l14, l15, l16, l17, l18, l19, l20, l21, l22, l23, l24, l25, l27, l31, l32, l40, l46, l48, l50, l57, l59, l63, l86, l96, l97, l100, l110, l114, l122, l127, l200, l255, l300, l319, l320, l340, l441, l456, l580, l600, l800, l886, l1206, l1526, J_add, J_sub, J_mul, J_neg, J_lt, J_le, J_eq, jT, jF, iT, iF, eT, eF, aT, aF, ite_true, ite_false, ite_not, bs]
  · rw [if_neg c, show min e 9999 = e by omega]
    refine ⟨h, ?_, FR.refl _ _, E⟩
    simp (disch := omega) only [m_X7_noteTooManyWords, T.r0, f3, lm8, lm2, lm1, l0, l1, l2, l3, l4, l5, l6, l7, l8, l9, l10, l11, l12, l13, l14, l15, l16, l17, l18, l19, l20, l21, l22, l23, l24, l25, l27, l31, l32, l40, l46, l48, l50, l57, l59, l63, l86, l96, l97, l100, l110, l114, l122, l127, l200, l255, l300, l319, l320, l340, l441, l456, l580, l600, l800, l886, l1206, l1526, J_add, J_sub, J_mul, J_neg, J_lt, J_le, J_eq, jT, jF, iT, iF, eT, eF, aT, aF, ite_true, ite_false, ite_not, bs]
end CN
