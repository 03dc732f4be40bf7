/-! PURE PART: questions and facts taken, the class, the rest -/
def Aqf (r b k : Nat) : Prop := Afc r b k ∨ Aqs r b k
def Auf (r b k : Nat) : Prop := Afc r b k ∨ (r + 21 ≤ b ∧ b ≤ r + 22)
section QT
variable {h : Hp} {r : Nat} {B : Int → Int} {L f k e : Int} {Q U : Int → Int}
theorem e3w_ok (W : LnW B L f k) {m : Int} (m0 : 0 ≤ m) : e3w B L f k m ≤ 9999 ∧ (e3w B L f k m = 9999 → nwF B L f k ≤ m) := by
  have hw := W.1
  unfold e3w
  by_cases c : m < nwF B L f k
  · rw [if_pos c]
    have := W.wrd m0 c
    omega
  · rw [if_neg c]
    omega
theorem e2w_le (W : LnW B L f k) : e2w B L f k ≤ 9999 := by
  have ms := W.ms
  unfold e2w
  split <;> omega
theorem elQ_ok (W : LnW B L f k) (h : elQ B L Q f k = 9999) : GoodQ B L Q f k := by
  have hw := W.1
  have l1 : e2n B L f k (Q 0) ≤ 9999 := bnU_le
  have l2 := e2w_le W
  have l3 := e3w_ok W (m := 4) (by omega)
  unfold elQ at h
  refine ⟨by split at h <;> split at h <;> omega, by split at h <;> split at h <;> omega, by split at h <;> split at h <;> omega, fun q => ?_⟩
  rw [if_pos q] at h
  exact l3.2 (by split at h <;> omega)
theorem LnP.takeQuestion (P : LnP h (r + 1) B L f k) (R : TRd (top h) r) (W : LnW B L f k) (H : QA h (r + 16) Q) (k7 : k ≤ 7) (E : ENc h r (min (e2n B L f k (Q 0)) (e2w B L f k))) : ∃ h', m_X7_takeQuestion r h = some h' ∧ FR (Aqf r) h h' ∧ ENc h' r (elQ B L Q f k) ∧ QA h' (r + 16) (if elQ B L Q f k = 9999 then stpQ B L Q f k else Q) := by
  have hw := W.1
  have k0 := W.2.1.1
  have q0 := H.2.1.1
  have le := E.le
  have qf : ∀ g, FR (Afc r) h g → QA g (r + 16) Q := fun g F => by
    refine H.frame F ?_ (fun k => ?_) (fun k => ?_) (fun k => ?_) (fun k => ?_) <;> · unfold Afc; omega
  have fin : ∀ g, FR (Afc r) h g → ENc g r (elQ B L Q f k) → ∃ h', j_X7_takeQuestion_39 r g = some h' ∧ FR (Aqf r) h h' ∧ ENc h' r (elQ B L Q f k) ∧ QA h' (r + 16) (if elQ B L Q f k = 9999 then stpQ B L Q f k else Q) := fun g F G => by
    have R' := R.fr F
    have P' := P.frc F
    have H' := qf g F
    obtain ⟨s, q1, q2, q3⟩ := G.is R'.tag
    by_cases c : elQ B L Q f k = 9999
    · rw [if_pos c]
      have s0 := q3.mpr c
      rw [s0] at q1
      obtain ⟨h', a1, a2, a3⟩ := P'.addQ R' W H' k7 (elQ_ok W c)
      refine ⟨h', ?_, (F.mono (fun b k q => Or.inl q)).trans (a2.mono (fun b k q => Or.inr q)), G.frame a2 (by unfold Aqs; omega) (by unfold Aqs; omega), a3⟩
      simp (disch := omega) only [j_X7_takeQuestion_39, q1, R'.r2, R'.r0, rc_ok H'.tag, a1, lm8, lm2, lm1, l0, l1, l2, l3, l4, l5, l6, l7, l8, l9, l10, l11, l12, l13, l14, l15, l16, l17, l18, l19, l20, l21, l22, l23, l24, l25, l27, l31, l32, l40, l46, l48, l50, l57, l59, l63, l86, l96, l97, l100, l110, l114, l122, l127, l200, l255, l300, l319, l320, l340, l441, l456, l580, l600, l800, l886, l1206, l1526, J_add, J_sub, J_mul, J_neg, J_lt, J_le, J_eq, jT, jF, iT, iF, eT, eF, aT, aF, ite_true, ite_false, ite_not, bs]
    · rw [if_neg c]
      have s0 : s < 0 ∨ 0 < s := by omega
      refine ⟨g, ?_, F.mono (fun b k q => Or.inl q), G, H'⟩
      simp (disch := first | omega | exact s0) only [j_X7_takeQuestion_39, q1, lm8, lm2, lm1, l0, l1, l2, l3, l4, l5, l6, l7, l8, l9, l10, l11, l12, l13, l14, l15, l16, l17, l18, l19, l20, l21, l22, l23, l24, l25, l27, l31, l32, l40, l46, l48, l50, l57, l59, l63, l86, l96, l97, l100, l110, l114, l122, l127, l200, l255, l300, l319, l320, l340, l441, l456, l580, l600, l800, l886, l1206, l1526, J_add, J_sub, J_mul, J_neg, J_lt, J_le, J_eq, jT, jF, iT, iF, eT, eF, aT, aF, ite_true, ite_false, ite_not, bs]
  have mid : ∀ (g : Hp) (X : Int), FR (Afc r) h g → ENc g r X → elQ B L Q f k = min X (if k = 0 then e3w B L f k 4 else 9999) → ∃ h', j_X7_takeQuestion_24 r g = some h' ∧ FR (Aqf r) h h' ∧ ENc h' r (elQ B L Q f k) ∧ QA h' (r + 16) (if elQ B L Q f k = 9999 then stpQ B L Q f k else Q) := fun g X F G hX => by
    have R' := R.fr F
    have P' := P.frc F
    have lX := G.le
    have e0 := P'.f0
    by_cases c : k = 0
    · rw [if_pos c] at hX
      rw [c] at e0
      obtain ⟨g2, n2, F2, E2⟩ := P'.tooMany R' W G (m := 4) (by omega) (by omega)
      rw [← hX] at E2
      obtain ⟨h', a1, a2⟩ := fin g2 (F.trans F2) E2
      refine ⟨h', ?_, a2⟩
      rw [← a1]
      simp (disch := omega) only [j_X7_takeQuestion_24, R'.r0, e0, rc_ok R'.tag, n2, lm8, lm2, lm1, l0, l1, l2, l3, l4, l5, l6, l7, l8, l9, l10, l11, l12, l13, l14, l15, l16, l17, l18, l19, l20, l21, l22, l23, l24, l25, l27, l31, l32, l40, l46, l48, l50, l57, l59, l63, l86, l96, l97, l100, l110, l114, l122, l127, l200, l255, l300, l319, l320, l340, l441, l456, l580, l600, l800, l886, l1206, l1526, J_add, J_sub, J_mul, J_neg, J_lt, J_le, J_eq, jT, jF, iT, iF, eT, eF, aT, aF, ite_true, ite_false, ite_not, bs]
    · rw [if_neg c, show min X 9999 = X by omega] at hX
      rw [← hX] at G
      have c' : k < 0 ∨ 0 < k := by omega
      obtain ⟨h', a1, a2⟩ := fin g F G
      refine ⟨h', ?_, a2⟩
      rw [← a1]
      simp (disch := first | omega | exact c') only [j_X7_takeQuestion_24, R'.r0, e0, lm8, lm2, lm1, l0, l1, l2, l3, l4, l5, l6, l7, l8, l9, l10, l11, l12, l13, l14, l15, l16, l17, l18, l19, l20, l21, l22, l23, l24, l25, l27, l31, l32, l40, l46, l48, l50, l57, l59, l63, l86, l96, l97, l100, l110, l114, l122, l127, l200, l255, l300, l319, l320, l340, l441, l456, l580, l600, l800, l886, l1206, l1526, J_add, J_sub, J_mul, J_neg, J_lt, J_le, J_eq, jT, jF, iT, iF, eT, eF, aT, aF, ite_true, ite_false, ite_not, bs]
  by_cases c : 8 ≤ Q 0
  · obtain ⟨g1, n1, F1, E1⟩ := E.note R.tag (s' := 3) (p' := f) (by omega) (by omega) (by omega) (by omega)
    obtain ⟨h', a1, a2⟩ := mid g1 _ F1 E1 (by unfold elQ; rw [if_pos c]; generalize (if k = 0 then e3w B L f k 4 else 9999) = w; omega)
    refine ⟨h', ?_, a2⟩
    rw [← a1]
    simp (disch := omega) only [m_X7_takeQuestion, R.r2, R.r0, H.f0, P.f1, rc_ok R.tag, n1, lm8, lm2, lm1, l0, l1, l2, l3, l4, l5, l6, l7, l8, l9, l10, l11, l12, l13, l14, l15, l16, l17, l18, l19, l20, l21, l22, l23, l24, l25, l27, l31, l32, l40, l46, l48, l50, l57, l59, l63, l86, l96, l97, l100, l110, l114, l122, l127, l200, l255, l300, l319, l320, l340, l441, l456, l580, l600, l800, l886, l1206, l1526, J_add, J_sub, J_mul, J_neg, J_lt, J_le, J_eq, jT, jF, iT, iF, eT, eF, aT, aF, ite_true, ite_false, ite_not, bs]
  · have w9 : (if k = 0 then e3w B L f k 4 else 9999) ≤ 9999 := by
      have := (e3w_ok W (m := 4) (by omega)).1
      split <;> omega
    obtain ⟨h', a1, a2⟩ := mid h _ (FR.refl _ _) E (by unfold elQ; rw [if_neg c]; generalize (if k = 0 then e3w B L f k 4 else 9999) = w at *; omega)
    refine ⟨h', ?_, a2⟩
    rw [← a1]
    simp (disch := omega) only [m_X7_takeQuestion, R.r2, H.f0, lm8, lm2, lm1, l0, l1, l2, l3, l4, l5, l6, l7, l8, l9, l10, l11, l12, l13, l14, l15, l16, l17, l18, l19, l20, l21, l22, l23, l24, l25, l27, l31, l32, l40, l46, l48, l50, l57, l59, l63, l86, l96, l97, l100, l110, l114, l122, l127, l200, l255, l300, l319, l320, l340, l441, l456, l580, l600, l800, l886, l1206, l1526, J_add, J_sub, J_mul, J_neg, J_lt, J_le, J_eq, jT, jF, iT, iF, eT, eF, aT, aF, ite_true, ite_false, ite_not, bs]
def GoodU (B : Int → Int) (L : Int) (U : Int → Int) (f k : Int) : Prop := e2n B L f k 0 = 9999 ∧ U 0 < 8
theorem elU_ok (W : LnW B L f k) (h : elU B L U f k = 9999) : GoodU B L U f k := by
  have hw := W.1
  have l1 : e2n B L f k 0 ≤ 9999 := bnU_le
  have l2 := e2w_le W
  unfold elU at h
  exact ⟨by split at h <;> omega, by split at h <;> omega⟩
theorem GoodU.num (G : GoodU B L U f k) (W : LnW B L f k) (k13 : 13 ≤ k) : (0 ≤ viF B L f k 0 ∧ viF B L f k 0 < 4) ∧ (0 ≤ viF B L f k 1 ∧ viF B L f k 1 < 10) ∧ nCk k = 2 := by
  have k14 := W.2.1.2
  have nk : nCk k = 2 := by
    unfold nCk
    rw [if_neg (by omega), if_neg (by omega), if_neg (by omega), if_neg (by omega), if_neg (by omega), if_neg (by omega)]
  have a := e2n_ok W G.1 (j := 0) (by omega) (by omega)
  have b := e2n_ok W G.1 (j := 1) (by omega) (by omega)
  unfold loV hiV at a b
  rw [if_neg (by omega), if_neg (by omega), if_neg (by omega), if_neg (by omega), if_neg (by omega), if_pos (by omega)] at a b
  rw [if_pos rfl] at a
  rw [if_neg (by omega)] at b
  omega
theorem stpU_0 : stpU B L U f k 0 = U 0 + 1 := if_pos rfl
theorem stpU_a (u0 : 0 ≤ U 0) : stpU B L U f k (1 + 3 * U 0) = if k = 13 then 1 else 0 := by
  unfold stpU
  rw [if_neg (by omega), if_pos rfl]
theorem stpU_b (u0 : 0 ≤ U 0) : stpU B L U f k (1 + 3 * U 0 + 1) = viF B L f k 0 := by
  unfold stpU
  rw [if_neg (by omega), if_neg (by omega), if_pos rfl]
theorem stpU_c (u0 : 0 ≤ U 0) : stpU B L U f k (1 + 3 * U 0 + 2) = viF B L f k 1 := by
  unfold stpU
  rw [if_neg (by omega), if_neg (by omega), if_neg (by omega), if_pos rfl]
theorem stpU_old {i : Int} (i0 : 1 ≤ i) (i1 : i < 1 + 3 * U 0) : stpU B L U f k i = U i := by
  unfold stpU
  rw [if_neg (by omega), if_neg (by omega), if_neg (by omega), if_neg (by omega)]
theorem GoodU.wf (G : GoodU B L U f k) (W : LnW B L f k) (WU : HWf U) (k13 : 13 ≤ k) : HWf (stpU B L U f k) := by
  have u0 := WU.1
  have g := G.2
  obtain ⟨n1, n2, n3⟩ := G.num W k13
  refine ⟨by rw [stpU_0]; omega, fun j j0 j1 => ?_⟩
  rw [stpU_0] at j1
  by_cases c : j < U 0
  · have := WU.2 j j0 c
    rw [stpU_old (by omega) (by omega), stpU_old (by omega) (by omega), stpU_old (by omega) (by omega)]
    exact this
  · have cj : j = U 0 := by omega
    rw [cj, stpU_a u0.1, stpU_b u0.1, stpU_c u0.1]
    refine ⟨?_, n1, n2⟩
    by_cases c13 : k = 13
    · rw [if_pos c13]
      exact Or.inr rfl
    · rw [if_neg c13]
      exact Or.inl rfl
theorem LnP.addU (P : LnP h (r + 1) B L f k) (R : TRd (top h) r) (W : LnW B L f k) (H : HA h (r + 21) U) (k13 : 13 ≤ k) (G : GoodU B L U f k) : ∃ h', m_X3_add (r + 21) (r + 1) h = some h' ∧ FR (fun b _ => r + 21 ≤ b ∧ b ≤ r + 21 + 1) h h' ∧ HA h' (r + 21) (stpU B L U f k) := by
  have u0 := H.2.1.1
  have g := G.2
  obtain ⟨n1, n2, n3⟩ := G.num W k13
  have k14 := W.2.1.2
  have T0 := H.1
  have lpf : ∀ g, FR (fun b _ => r + 21 ≤ b ∧ b ≤ r + 21 + 1) h g → LnP g (r + 1) B L f k := fun g F => P.frame F (fun b k b0 b1 => by omega)
  have tq : ∀ g, FR (fun b _ => r + 21 ≤ b ∧ b ≤ r + 21 + 1) h g → TU (top g) (r + 21) := fun g F => by rw [F.1]; exact T0
  generalize ho : r + 21 = o at *
  have r1 : ∀ g, FR (fun b _ => o ≤ b ∧ b ≤ o + 1) h g → gfR g o 4 1 = some (o + 1) := fun g F => gfR_ok (tq g F).1 (tq g F).2.1
  have s0 : ∀ g, FR (fun b _ => o ≤ b ∧ b ≤ o + 1) h g → hE g o 0 = U 0 → gfI g o 4 0 = some (J (U 0)) := fun g F q => by rw [gfI_ok (tq g F).1]; exact congrArg (fun z => some (J z)) q
  have sub : ∀ b k : Nat, (b = o + 1) → o ≤ b ∧ b ≤ o + 1 := fun b k q => by omega
  obtain ⟨g1, s1, F1, c1⟩ := set_any (h := h) (i := U 0 * 3) (z := if k = 13 then 1 else 0) T0.2.2 (by omega) (by omega) (by omega) (by split <;> omega) (by split <;> omega)
  have F01 := F1.mono sub
  have z1 : hE g1 o 0 = U 0 := by rw [c1 _ _ (by omega), if_neg (by omega)]; exact H.2.2.1
  obtain ⟨g2, s2, F2, c2⟩ := set_any (h := g1) (i := U 0 * 3 + 1) (z := viF B L f k 0) (tq g1 F01).2.2 (by omega) (by omega) (by omega) (by omega) (by omega)
  have F02 := F01.trans (F2.mono sub)
  have z2 : hE g2 o 0 = U 0 := by rw [c2 _ _ (by omega), if_neg (by omega)]; exact z1
  obtain ⟨g3, s3, F3, c3⟩ := set_any (h := g2) (i := U 0 * 3 + 2) (z := viF B L f k 1) (tq g2 F02).2.2 (by omega) (by omega) (by omega) (by omega) (by omega)
  have F03 := F02.trans (F3.mono sub)
  have z3 : hE g3 o 0 = U 0 := by rw [c3 _ _ (by omega), if_neg (by omega)]; exact z2
  have p4 : pfI g3 o 4 0 (J (U 0 + 1)) = some (wE g3 o 0 (U 0 + 1)) := pfI_ok (tq g3 F03).1
  have F4 : FR (fun b _ => o ≤ b ∧ b ≤ o + 1) g3 (wE g3 o 0 (U 0 + 1)) := FR.wE (A := fun b _ => o ≤ b ∧ b ≤ o + 1) ⟨by omega, by omega⟩
  have c4 : ∀ b j, 0 ≤ j → hE (wE g3 o 0 (U 0 + 1)) b j = if b = o ∧ j = 0 then U 0 + 1 else hE g3 b j := fun b j j0 => hE_wE (by omega) j0 (by omega) (by omega)
  generalize wE g3 o 0 (U 0 + 1) = g4 at *
  have v0 := (lpf g1 F01).value (j := 0) (by omega) (by omega)
  have v1 := (lpf g2 F02).value (j := 1) (by omega) (by omega)
  have q0 := s0 h (FR.refl _ _) H.2.2.1
  have e0 := P.f0
  refine ⟨g4, ?_, F03.trans F4, by rw [(F03.trans F4).1]; exact T0, G.wf W H.2.1 k13, ?_, fun i i0 i1 => ?_⟩
  · by_cases c : k = 13
    · rw [if_pos c] at s1
      rw [c] at e0
      simp (disch := omega) only [m_X3_add, j_X3_add_34, q0, r1 h (FR.refl _ _), e0, s1, r1 g1 F01, s0 g1 F01 z1, rc_ok (lpf g1 F01).tag, v0, s2, r1 g2 F02, s0 g2 F02 z2, rc_ok (lpf g2 F02).tag, v1, s3, s0 g3 F03 z3, p4, lm8, lm2, lm1, l0, l1, l2, l3, l4, l5, l6, l7, l8, l9, l10, l11, l12, l13, l14, l15, l16, l17, l18, l19, l20, l21, l22, l23, l24, l25, l27, l31, l32, l40, l46, l48, l50, l57, l59, l63, l86, l96, l97, l100, l110, l114, l122, l127, l200, l255, l300, l319, l320, l340, l441, l456, l580, l600, l800, l886, l1206, l1526, J_add, J_sub, J_mul, J_neg, J_lt, J_le, J_eq, jT, jF, iT, iF, eT, eF, aT, aF, ite_true, ite_false, ite_not, bs]
    · rw [if_neg c] at s1
      have c' : k < 13 ∨ 13 < k := by omega
      simp (disch := first | omega | exact c') only [m_X3_add, j_X3_add_34, q0, r1 h (FR.refl _ _), e0, s1, r1 g1 F01, s0 g1 F01 z1, rc_ok (lpf g1 F01).tag, v0, s2, r1 g2 F02, s0 g2 F02 z2, rc_ok (lpf g2 F02).tag, v1, s3, s0 g3 F03 z3, p4, lm8, lm2, lm1, l0, l1, l2, l3, l4, l5, l6, l7, l8, l9, l10, l11, l12, l13, l14, l15, l16, l17, l18, l19, l20, l21, l22, l23, l24, l25, l27, l31, l32, l40, l46, l48, l50, l57, l59, l63, l86, l96, l97, l100, l110, l114, l122, l127, l200, l255, l300, l319, l320, l340, l441, l456, l580, l600, l800, l886, l1206, l1526, J_add, J_sub, J_mul, J_neg, J_lt, J_le, J_eq, jT, jF, iT, iF, eT, eF, aT, aF, ite_true, ite_false, ite_not, bs]
  · rw [c4 _ _ (by omega), if_pos ⟨rfl, rfl⟩]
    exact (if_pos rfl).symm
  · rw [show stpU B L U f k 0 = U 0 + 1 from if_pos rfl] at i1
    rw [c4 _ _ i0, if_neg (by omega), c3 _ _ i0, c2 _ _ i0, c1 _ _ i0]
    unfold stpU
    rw [if_neg (show ¬ 1 + i = 0 by omega)]
    by_cases q2 : i = U 0 * 3 + 2
    · rw [if_pos ⟨rfl, q2, by omega⟩, if_neg (by omega), if_neg (by omega), if_pos (by omega)]
    · rw [if_neg (fun y => q2 y.2.1)]
      by_cases q1 : i = U 0 * 3 + 1
      · rw [if_pos ⟨rfl, q1, by omega⟩, if_neg (by omega), if_pos (by omega)]
      · rw [if_neg (fun y => q1 y.2.1)]
        by_cases q0 : i = U 0 * 3
        · rw [if_pos ⟨rfl, q0, by omega⟩, if_pos (show 1 + i = 1 + 3 * U 0 by omega)]
        · rw [if_neg (fun y => q0 y.2.1), if_neg (by omega), if_neg (by omega), if_neg (by omega)]
          exact H.2.2.2 i i0 (by omega)
theorem LnP.takeFact (P : LnP h (r + 1) B L f k) (R : TRd (top h) r) (W : LnW B L f k) (H : HA h (r + 21) U) (k13 : 13 ≤ k) (E : ENc h r (min (e2n B L f k 0) (e2w B L f k))) : ∃ h', m_X7_takeFact r h = some h' ∧ FR (Auf r) h h' ∧ ENc h' r (elU B L U f k) ∧ HA h' (r + 21) (if elU B L U f k = 9999 then stpU B L U f k else U) := by
  have hw := W.1
  have u0 := H.2.1.1
  have le := E.le
  have uf : ∀ g, FR (Afc r) h g → HA g (r + 21) U := fun g F => by
    obtain ⟨a1, a2, a3, a4⟩ := H
    exact ⟨by rw [F.1]; exact a1, a2, by rw [F.e (by unfold Afc; omega), a3], fun i i0 i1 => by rw [F.e (by unfold Afc; omega), a4 i i0 i1]⟩
  have fin : ∀ g, FR (Afc r) h g → ENc g r (elU B L U f k) → ∃ h', j_X7_takeFact_24 r g = some h' ∧ FR (Auf r) h h' ∧ ENc h' r (elU B L U f k) ∧ HA h' (r + 21) (if elU B L U f k = 9999 then stpU B L U f k else U) := fun g F G => by
    have R' := R.fr F
    have P' := P.frc F
    have H' := uf g F
    obtain ⟨s, q1, q2, q3⟩ := G.is R'.tag
    by_cases c : elU B L U f k = 9999
    · rw [if_pos c]
      have s0 := q3.mpr c
      rw [s0] at q1
      obtain ⟨h', a1, a2, a3⟩ := P'.addU R' W H' k13 (elU_ok W c)
      refine ⟨h', ?_, (F.mono (fun b k q => Or.inl q)).trans (a2.mono (fun b k q => Or.inr ⟨q.1, by have := q.2; omega⟩)), G.frame a2 (by omega) (by omega), a3⟩
      simp (disch := omega) only [j_X7_takeFact_24, q1, R'.r3, R'.r0, rc_ok H'.tag, a1, lm8, lm2, lm1, l0, l1, l2, l3, l4, l5, l6, l7, l8, l9, l10, l11, l12, l13, l14, l15, l16, l17, l18, l19, l20, l21, l22, l23, l24, l25, l27, l31, l32, l40, l46, l48, l50, l57, l59, l63, l86, l96, l97, l100, l110, l114, l122, l127, l200, l255, l300, l319, l320, l340, l441, l456, l580, l600, l800, l886, l1206, l1526, J_add, J_sub, J_mul, J_neg, J_lt, J_le, J_eq, jT, jF, iT, iF, eT, eF, aT, aF, ite_true, ite_false, ite_not, bs]
    · rw [if_neg c]
      have s0 : s < 0 ∨ 0 < s := by omega
      refine ⟨g, ?_, F.mono (fun b k q => Or.inl q), G, H'⟩
      simp (disch := first | omega | exact s0) only [j_X7_takeFact_24, q1, lm8, lm2, lm1, l0, l1, l2, l3, l4, l5, l6, l7, l8, l9, l10, l11, l12, l13, l14, l15, l16, l17, l18, l19, l20, l21, l22, l23, l24, l25, l27, l31, l32, l40, l46, l48, l50, l57, l59, l63, l86, l96, l97, l100, l110, l114, l122, l127, l200, l255, l300, l319, l320, l340, l441, l456, l580, l600, l800, l886, l1206, l1526, J_add, J_sub, J_mul, J_neg, J_lt, J_le, J_eq, jT, jF, iT, iF, eT, eF, aT, aF, ite_true, ite_false, ite_not, bs]
  by_cases c : 8 ≤ U 0
  · obtain ⟨g1, n1, F1, E1⟩ := E.note R.tag (s' := 3) (p' := f) (by omega) (by omega) (by omega) (by omega)
    obtain ⟨h', a1, a2⟩ := fin g1 F1 (by unfold elU; rw [if_pos c]; exact E1)
    refine ⟨h', ?_, a2⟩
    rw [← a1]
    simp (disch := omega) only [m_X7_takeFact, R.r3, R.r0, H.f0, P.f1, rc_ok R.tag, n1, lm8, lm2, lm1, l0, l1, l2, l3, l4, l5, l6, l7, l8, l9, l10, l11, l12, l13, l14, l15, l16, l17, l18, l19, l20, l21, l22, l23, l24, l25, l27, l31, l32, l40, l46, l48, l50, l57, l59, l63, l86, l96, l97, l100, l110, l114, l122, l127, l200, l255, l300, l319, l320, l340, l441, l456, l580, l600, l800, l886, l1206, l1526, J_add, J_sub, J_mul, J_neg, J_lt, J_le, J_eq, jT, jF, iT, iF, eT, eF, aT, aF, ite_true, ite_false, ite_not, bs]
  · obtain ⟨h', a1, a2⟩ := fin h (FR.refl _ _) (by unfold elU; rw [if_neg c, show min (min (e2n B L f k 0) (e2w B L f k)) 9999 = min (e2n B L f k 0) (e2w B L f k) by omega]; exact E)
    refine ⟨h', ?_, a2⟩
    rw [← a1]
    simp (disch := omega) only [m_X7_takeFact, R.r3, H.f0, lm8, lm2, lm1, l0, l1, l2, l3, l4, l5, l6, l7, l8, l9, l10, l11, l12, l13, l14, l15, l16, l17, l18, l19, l20, l21, l22, l23, l24, l25, l27, l31, l32, l40, l46, l48, l50, l57, l59, l63, l86, l96, l97, l100, l110, l114, l122, l127, l200, l255, l300, l319, l320, l340, l441, l456, l580, l600, l800, l886, l1206, l1526, J_add, J_sub, J_mul, J_neg, J_lt, J_le, J_eq, jT, jF, iT, iF, eT, eF, aT, aF, ite_true, ite_false, ite_not, bs]
end QT
