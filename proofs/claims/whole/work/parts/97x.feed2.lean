/-! PURE PART: feed, end, fault, count, the steps -/
section FD2
variable {h : Hp} {x o : Nat} {S : Sx}
theorem SBo.ct (M : SBo h x o S) : CT h (x + 2) (sB S) (sL S) := M.2.1.2.1
theorem SBo.tp (M : SBo h x o S) : gfR h (x + 1) 9 0 = some (x + 2) := M.2.1.r0
theorem SBo.rb (M : SBo h x o S) : RBf h o (sB S) (sL S) := by
  obtain ⟨r1, r2, r3, -⟩ := M.2.2.1
  refine ⟨r1, r3, fun k k0 k1 => ?_⟩
  have := r2 k k0 k1
  rw [show 600 * (0 : Int) + k = k by omega] at this
  exact this
theorem SBo.code (M : SBo h x o S) : pfI h o 12 0 (0 : Int32) = some (wE h o 0 0) ∧ FR (fun b k => b = o) h (wE h o 0 0) ∧ SBo (wE h o 0 0) x o S := by
  have F : FR (fun b k => b = o) h (wE h o 0 0) := FR.wE (A := fun b k => b = o) rfl
  exact ⟨pfI_ok (k := 0) (z := 0) M.2.2.1.1.tag, F, M.frame (F.mono (fun b k q => by unfold Asc; exact Or.inr (Or.inl q)))⟩
theorem SBo.room (M : SBo h x o S) : m_X10_hasRoom (x + 2) h = some (J (b01 (decide (sL S ≤ 580)))) := by
  have C := M.ct
  obtain ⟨h0, h1, -⟩ := C.2.1
  have f1 : gfI h (x + 2) 10 1 = some (J (sL S)) := by rw [C.fI]; exact congrArg (fun z => some (J z)) C.2.2.1
  by_cases c : sL S ≤ 580
  · rw [decide_eq_true c]
    simp (disch := omega) only [m_X10_hasRoom, j_X10_hasRoom_22, f1, zb1, lm8, lm2, lm1, l0, l1, l2, l3, l4, l5, l6, l7, l8, l9, l10, l11, l12, l13, l14, l15, l16, l17, l18, l19, l20, l21, l22, l23, l24, l25, l27, l31, l32, l40, l46, l48, l50, l57, l59, l63, l86, l96, l97, l100, l110, l114, l122, l127, l200, l255, l300, l319, l320, l340, l441, l456, l580, l600, l800, l886, l1206, l1526, J_add, J_sub, J_mul, J_neg, J_lt, J_le, J_eq, jT, jF, iT, iF, eT, eF, aT, aF, ite_true, ite_false, ite_not, bs]
    rfl
  · rw [decide_eq_false c]
    simp (disch := omega) only [m_X10_hasRoom, j_X10_hasRoom_22, f1, zb0, lm8, lm2, lm1, l0, l1, l2, l3, l4, l5, l6, l7, l8, l9, l10, l11, l12, l13, l14, l15, l16, l17, l18, l19, l20, l21, l22, l23, l24, l25, l27, l31, l32, l40, l46, l48, l50, l57, l59, l63, l86, l96, l97, l100, l110, l114, l122, l127, l200, l255, l300, l319, l320, l340, l441, l456, l580, l600, l800, l886, l1206, l1526, J_add, J_sub, J_mul, J_neg, J_lt, J_le, J_eq, jT, jF, iT, iF, eT, eF, aT, aF, ite_true, ite_false, ite_not, bs]
    rfl
theorem SBo.feed (M : SBo h x o S) (v1 v2 v3 v4 v5 : Int32) : Sp h x o (m_X11_feed x v1 v2 v3 v4 v5 h) (m_X12_feed o v1 v2 v3 v4 v5) := by
  have C := M.ct
  obtain ⟨w0, w1, -⟩ := C.2.1
  by_cases c : sL S ≤ 580
  · obtain ⟨g1, e1, F1, C1⟩ := C.add (v := v1) (by omega)
    obtain ⟨g2, e2, F2, C2⟩ := C1.add (v := v2) (by omega)
    obtain ⟨g3, e3, F3, C3⟩ := C2.add (v := v3) (by omega)
    obtain ⟨g4, e4, F4, C4⟩ := C3.add (v := v4) (by omega)
    obtain ⟨g5, e5, F5, C5⟩ := C4.add (v := v5) (by omega)
    have Fc := (((F1.trans F2).trans F3).trans F4).trans F5
    have Fc' : FR (AFd x o) h g5 := Fc.mono (fun b k q => by
      unfold AAd at q
      unfold AFd
      omega)
    have Ro : RBf g5 o (sB S) (sL S) := M.rb.frame Fc (by unfold AAd; have := M.2.2.2.2; omega) (fun k => by unfold AAd; have := M.2.2.2.2; omega)
    have f5 : gfI g5 (x + 2) 10 1 = some (J (sL S + 4 + 4 + 4 + 4 + 4)) := by rw [C5.fI]; exact congrArg (fun z => some (J z)) C5.2.2.1
    have p0 : pfI g5 o 12 0 (0 : Int32) = some (wE g5 o 0 0) := pfI_ok (k := 0) (z := 0) Ro.1.tag
    have F0 : FR (fun b k => b = o) g5 (wE g5 o 0 0) := FR.wE (A := fun b k => b = o) rfl
    generalize wE g5 o 0 0 = k0 at *
    have R0 : RBf k0 o (sB S) (sL S) := Ro.frame F0 (by omega) (fun k => by omega)
    obtain ⟨k1, d1, G1, R1⟩ := R0.four (v := v1) (by omega) (by omega)
    obtain ⟨k2, d2, G2, R2⟩ := R1.four (v := v2) (by omega) (by omega)
    obtain ⟨k3, d3, G3, R3⟩ := R2.four (v := v3) (by omega) (by omega)
    obtain ⟨k4, d4, G4, R4⟩ := R3.four (v := v4) (by omega) (by omega)
    obtain ⟨k5, d5, G5, R5⟩ := R4.four (v := v5) (by omega) (by omega)
    have Gc := (((G1.trans G2).trans G3).trans G4).trans G5
    have Gc' : FR (AFd x o) g5 k5 := (F0.mono (fun b k q => by unfold AFd; omega)).trans (Gc.mono (fun b k q => by unfold AFd; exact Or.inr (Or.inr (Or.inl q))))
    have C6 := (C5.frame F0 (by have := M.2.2.2.2; omega) (fun k => by have := M.2.2.2.2; omega)).frame Gc (by unfold AFo; have := M.2.2.2.2; omega) (fun k => by unfold AFo; have := M.2.2.2.2; omega)
    have a0 : alI k0 (o + 2) (J 0) = some (J (sL S)) := by rw [alI_ok R0.1.a2 (by omega) (by omega) (by omega), R0.2.1]
    have a5 : alI k5 (o + 2) (J 0) = some (J (sL S + 4 + 4 + 4 + 4 + 4)) := by rw [alI_ok R5.1.a2 (by omega) (by omega) (by omega), R5.2.1]
    have rm := M.room
    rw [decide_eq_true c] at rm
    refine ⟨sL S + 4 + 4 + 4 + 4 + 4, g5, k5, _, ?_, ?_, (Fc'.trans Gc').mono (fun b k => AFd_St), M.tape (Fc'.trans Gc') C6 R5, Fc'.mono (fun b k => AFd_St)⟩
    · unfold m_X11_feed
      simp (disch := omega) only [M.r0, M.tp, rc_ok C.tag, rm, e1, rc_ok C1.tag, e2, rc_ok C2.tag, e3, rc_ok C3.tag, e4, rc_ok C4.tag, e5, f5, bI, bN, cond_true, lm8, lm2, lm1, l0, l1, l2, l3, l4, l5, l6, l7, l8, l9, l10, l11, l12, l13, l14, l15, l16, l17, l18, l19, l20, l21, l22, l23, l24, l25, l27, l31, l32, l40, l46, l48, l50, l57, l59, l63, l86, l96, l97, l100, l110, l114, l122, l127, l200, l255, l300, l319, l320, l340, l441, l456, l580, l600, l800, l886, l1206, l1526, J_add, J_sub, J_mul, J_neg, J_lt, J_le, J_eq, jT, jF, iT, iF, eT, eF, aT, aF, ite_true, ite_false, ite_not, bs]
    · unfold m_X12_feed
      rw [p0]
      simp (disch := omega) only [R0.1.r2, a0, rc_ok R0.1.tag, d1, rc_ok R1.1.tag, d2, rc_ok R2.1.tag, d3, rc_ok R3.1.tag, d4, rc_ok R4.1.tag, d5, R5.1.r2, a5, lm8, lm2, lm1, l0, l1, l2, l3, l4, l5, l6, l7, l8, l9, l10, l11, l12, l13, l14, l15, l16, l17, l18, l19, l20, l21, l22, l23, l24, l25, l27, l31, l32, l40, l46, l48, l50, l57, l59, l63, l86, l96, l97, l100, l110, l114, l122, l127, l200, l255, l300, l319, l320, l340, l441, l456, l580, l600, l800, l886, l1206, l1526, J_add, J_sub, J_mul, J_neg, J_lt, J_le, J_eq, jT, jF, iT, iF, eT, eF, aT, aF, ite_true, ite_false, ite_not, bs]
  · obtain ⟨p0, F0, M0⟩ := M.code
    have rm := M.room
    rw [decide_eq_false c] at rm
    have R0 := M0.rb
    generalize wE h o 0 0 = k0 at *
    have a0 : alI k0 (o + 2) (J 0) = some (J (sL S)) := by rw [alI_ok R0.1.a2 (by omega) (by omega) (by omega), R0.2.1]
    refine ⟨-1, h, k0, S, ?_, ?_, F0.mono (fun b k q => by unfold St A0; omega), M0, FR.refl _ _⟩
    · unfold m_X11_feed
      simp (disch := omega) only [M.r0, M.tp, rc_ok C.tag, rm, lm1, bI, bN, cond_false, lm8, lm2, lm1, l0, l1, l2, l3, l4, l5, l6, l7, l8, l9, l10, l11, l12, l13, l14, l15, l16, l17, l18, l19, l20, l21, l22, l23, l24, l25, l27, l31, l32, l40, l46, l48, l50, l57, l59, l63, l86, l96, l97, l100, l110, l114, l122, l127, l200, l255, l300, l319, l320, l340, l441, l456, l580, l600, l800, l886, l1206, l1526, J_add, J_sub, J_mul, J_neg, J_lt, J_le, J_eq, jT, jF, iT, iF, eT, eF, aT, aF, ite_true, ite_false, ite_not, bs]
    · unfold m_X12_feed
      rw [p0]
      simp (disch := omega) only [R0.1.r2, a0, lm1, lm8, lm2, lm1, l0, l1, l2, l3, l4, l5, l6, l7, l8, l9, l10, l11, l12, l13, l14, l15, l16, l17, l18, l19, l20, l21, l22, l23, l24, l25, l27, l31, l32, l40, l46, l48, l50, l57, l59, l63, l86, l96, l97, l100, l110, l114, l122, l127, l200, l255, l300, l319, l320, l340, l441, l456, l580, l600, l800, l886, l1206, l1526, J_add, J_sub, J_mul, J_neg, J_lt, J_le, J_eq, jT, jF, iT, iF, eT, eF, aT, aF, ite_true, ite_false, ite_not, bs]
theorem SBo.end_ (M : SBo h x o S) {a : Int} (a0 : -2147483648 ≤ a) (a1 : a < 2147483648) : Sp h x o (m_X11_end x (J a) h) (m_X12_end o (J a)) := by
  have C := M.ct
  obtain ⟨w0, w1, w2⟩ := C.2.1
  have f1 : gfI h (x + 2) 10 1 = some (J (sL S)) := by rw [C.fI]; exact congrArg (fun z => some (J z)) C.2.2.1
  by_cases c : 0 ≤ a ∧ a ≤ sL S
  · have p1 : pfI h (x + 2) 10 1 (J a) = some (wE h (x + 2) 1 a) := pfI_ok C.tag
    have F1 : FR (fun b k => b = x + 2 ∧ k = 1) h (wE h (x + 2) 1 a) := FR.wE (A := fun b k => b = x + 2 ∧ k = 1) ⟨rfl, rfl⟩
    have C1 : CT (wE h (x + 2) 1 a) (x + 2) (sB S) a := by
      refine ⟨by rw [F1.1]; exact C.1, ⟨c.1, by omega, w2⟩, ?_, fun k k0 k1 => ?_⟩
      · rw [hE_wE (by omega) (by omega) a0 a1, if_pos ⟨rfl, rfl⟩]
      · rw [hE_wE_ne (by omega), C.2.2.2 k k0 k1]
    generalize wE h (x + 2) 1 a = g1 at *
    have Ro : RBf g1 o (sB S) (sL S) := M.rb.frame F1 (by have := M.2.2.2.2; omega) (fun k => by have := M.2.2.2.2; omega)
    have p0 : pfI g1 o 12 0 (0 : Int32) = some (wE g1 o 0 0) := pfI_ok (k := 0) (z := 0) Ro.1.tag
    have F0 : FR (fun b k => b = o) g1 (wE g1 o 0 0) := FR.wE (A := fun b k => b = o) rfl
    generalize wE g1 o 0 0 = k0 at *
    have R0 : RBf k0 o (sB S) (sL S) := Ro.frame F0 (by omega) (fun k => by omega)
    have b0 : alI k0 (o + 2) (J 0) = some (J (sL S)) := by rw [alI_ok R0.1.a2 (by omega) (by omega) (by omega), R0.2.1]
    have s0 : asI k0 (o + 2) (J 0) (J a) = some (wE k0 (o + 2) 0 a) := asI_ok R0.1.a2 (by omega) (by omega) (by omega)
    have F2 : FR (fun b k => b = o + 2 ∧ k = 0) k0 (wE k0 (o + 2) 0 a) := FR.wE (A := fun b k => b = o + 2 ∧ k = 0) ⟨rfl, rfl⟩
    have R1 : RBf (wE k0 (o + 2) 0 a) o (sB S) a := by
      refine ⟨by rw [F2.1]; exact R0.1, ?_, fun k k0 k1 => ?_⟩
      · rw [hE_wE (by omega) (by omega) a0 a1, if_pos ⟨rfl, rfl⟩]
      · rw [hE_wE_ne (by omega), R0.2.2 k k0 k1]
    generalize wE k0 (o + 2) 0 a = k1 at *
    have ei : m_X12_in (J a) (J 0) (J (sL S)) k0 = some (J 1) := X12_in_T (by omega) (by omega) (by omega)
    have Fa : FR (AFd x o) h k1 := ((F1.mono (fun b k q => by unfold AFd; omega)).trans (F0.mono (fun b k q => by unfold AFd; omega))).trans (F2.mono (fun b k q => by unfold AFd AFo; omega))
    have C2 := (C1.frame F0 (by have := M.2.2.2.2; omega) (fun k => by have := M.2.2.2.2; omega)).frame F2 (by have := M.2.2.2.2; omega) (fun k => by have := M.2.2.2.2; omega)
    refine ⟨a, g1, k1, _, ?_, ?_, Fa.mono (fun b k => AFd_St), M.tape Fa C2 R1, F1.mono (fun b k q => by unfold St; omega)⟩
    · unfold m_X11_end
      simp (disch := omega) only [M.r0, M.tp, f1, p1, lm8, lm2, lm1, l0, l1, l2, l3, l4, l5, l6, l7, l8, l9, l10, l11, l12, l13, l14, l15, l16, l17, l18, l19, l20, l21, l22, l23, l24, l25, l27, l31, l32, l40, l46, l48, l50, l57, l59, l63, l86, l96, l97, l100, l110, l114, l122, l127, l200, l255, l300, l319, l320, l340, l441, l456, l580, l600, l800, l886, l1206, l1526, J_add, J_sub, J_mul, J_neg, J_lt, J_le, J_eq, jT, jF, iT, iF, eT, eF, aT, aF, ite_true, ite_false, ite_not, bs]
    · unfold m_X12_end
      rw [p0]
      simp (disch := omega) only [R0.1.r2, b0, ei, s0, lm8, lm2, lm1, l0, l1, l2, l3, l4, l5, l6, l7, l8, l9, l10, l11, l12, l13, l14, l15, l16, l17, l18, l19, l20, l21, l22, l23, l24, l25, l27, l31, l32, l40, l46, l48, l50, l57, l59, l63, l86, l96, l97, l100, l110, l114, l122, l127, l200, l255, l300, l319, l320, l340, l441, l456, l580, l600, l800, l886, l1206, l1526, J_add, J_sub, J_mul, J_neg, J_lt, J_le, J_eq, jT, jF, iT, iF, eT, eF, aT, aF, ite_true, ite_false, ite_not, bs]
  · obtain ⟨p0, F0, M0⟩ := M.code
    have R0 := M0.rb
    generalize wE h o 0 0 = k0 at *
    have b0 : alI k0 (o + 2) (J 0) = some (J (sL S)) := by rw [alI_ok R0.1.a2 (by omega) (by omega) (by omega), R0.2.1]
    have ei : m_X12_in (J a) (J 0) (J (sL S)) k0 = some (J 0) := X12_in_F (by omega) (by omega) (by omega) (by omega)
    refine ⟨-1, h, k0, S, ?_, ?_, F0.mono (fun b k q => by unfold St A0; omega), M0, FR.refl _ _⟩
    · unfold m_X11_end
      by_cases n : a < 0
      · simp (disch := omega) only [M.r0, M.tp, f1, lm1, lm8, lm2, lm1, l0, l1, l2, l3, l4, l5, l6, l7, l8, l9, l10, l11, l12, l13, l14, l15, l16, l17, l18, l19, l20, l21, l22, l23, l24, l25, l27, l31, l32, l40, l46, l48, l50, l57, l59, l63, l86, l96, l97, l100, l110, l114, l122, l127, l200, l255, l300, l319, l320, l340, l441, l456, l580, l600, l800, l886, l1206, l1526, J_add, J_sub, J_mul, J_neg, J_lt, J_le, J_eq, jT, jF, iT, iF, eT, eF, aT, aF, ite_true, ite_false, ite_not, bs]
      · simp (disch := omega) only [M.r0, M.tp, f1, lm1, lm8, lm2, lm1, l0, l1, l2, l3, l4, l5, l6, l7, l8, l9, l10, l11, l12, l13, l14, l15, l16, l17, l18, l19, l20, l21, l22, l23, l24, l25, l27, l31, l32, l40, l46, l48, l50, l57, l59, l63, l86, l96, l97, l100, l110, l114, l122, l127, l200, l255, l300, l319, l320, l340, l441, l456, l580, l600, l800, l886, l1206, l1526, J_add, J_sub, J_mul, J_neg, J_lt, J_le, J_eq, jT, jF, iT, iF, eT, eF, aT, aF, ite_true, ite_false, ite_not, bs]
    · unfold m_X12_end
      rw [p0]
      simp (disch := omega) only [R0.1.r2, b0, ei, lm1, lm8, lm2, lm1, l0, l1, l2, l3, l4, l5, l6, l7, l8, l9, l10, l11, l12, l13, l14, l15, l16, l17, l18, l19, l20, l21, l22, l23, l24, l25, l27, l31, l32, l40, l46, l48, l50, l57, l59, l63, l86, l96, l97, l100, l110, l114, l122, l127, l200, l255, l300, l319, l320, l340, l441, l456, l580, l600, l800, l886, l1206, l1526, J_add, J_sub, J_mul, J_neg, J_lt, J_le, J_eq, jT, jF, iT, iF, eT, eF, aT, aF, ite_true, ite_false, ite_not, bs]
theorem SBo.fault (M : SBo h x o S) {a : Int} (a0 : -2147483648 ≤ a) (a1 : a < 2147483648) : Qy h x o (m_X11_fault x (J a) h) (m_X12_fault o (J a)) := by
  obtain ⟨p0, F0, M0⟩ := M.code
  have R0 := M0.2.2.1
  have tg := M.2.1.tag
  have f1 : gfI h (x + 1) 9 1 = some (J (sF S)) := by rw [gfI_ok tg]; exact congrArg (fun z => some (J z)) M.2.1.2.2.1
  have f2 : gfI h (x + 1) 9 2 = some (J (sP S)) := by rw [gfI_ok tg]; exact congrArg (fun z => some (J z)) M.2.1.2.2.2.1
  generalize wE h o 0 0 = k0 at *
  have b3 : alI k0 (o + 3) (J 0) = some (J (sF S)) := by rw [alI_ok R0.1.a3 (by omega) (by omega) (by omega), R0.2.2.2.1]
  have b4 : alI k0 (o + 4) (J 0) = some (J (sP S)) := by rw [alI_ok R0.1.a4 (by omega) (by omega) (by omega), R0.2.2.2.2.1]
  have FA : FR (Asc x o) h k0 := F0.mono (fun b k q => Or.inr (Or.inl q))
  by_cases c0 : a = 0
  · refine ⟨sF S, k0, ?_, ?_, FA⟩
    · unfold m_X11_fault
      rw [c0]
      simp (disch := omega) only [M.r0, f1, lm8, lm2, lm1, l0, l1, l2, l3, l4, l5, l6, l7, l8, l9, l10, l11, l12, l13, l14, l15, l16, l17, l18, l19, l20, l21, l22, l23, l24, l25, l27, l31, l32, l40, l46, l48, l50, l57, l59, l63, l86, l96, l97, l100, l110, l114, l122, l127, l200, l255, l300, l319, l320, l340, l441, l456, l580, l600, l800, l886, l1206, l1526, J_add, J_sub, J_mul, J_neg, J_lt, J_le, J_eq, jT, jF, iT, iF, eT, eF, aT, aF, ite_true, ite_false, ite_not, bs]
    · unfold m_X12_fault
      rw [p0, c0]
      simp (disch := omega) only [R0.1.r3, b3, j_X12_fault_33, lm8, lm2, lm1, l0, l1, l2, l3, l4, l5, l6, l7, l8, l9, l10, l11, l12, l13, l14, l15, l16, l17, l18, l19, l20, l21, l22, l23, l24, l25, l27, l31, l32, l40, l46, l48, l50, l57, l59, l63, l86, l96, l97, l100, l110, l114, l122, l127, l200, l255, l300, l319, l320, l340, l441, l456, l580, l600, l800, l886, l1206, l1526, J_add, J_sub, J_mul, J_neg, J_lt, J_le, J_eq, jT, jF, iT, iF, eT, eF, aT, aF, ite_true, ite_false, ite_not, bs]
  · by_cases c1 : a = 1
    · refine ⟨sP S, k0, ?_, ?_, FA⟩
      · unfold m_X11_fault
        rw [c1]
        simp (disch := omega) only [M.r0, f2, lm8, lm2, lm1, l0, l1, l2, l3, l4, l5, l6, l7, l8, l9, l10, l11, l12, l13, l14, l15, l16, l17, l18, l19, l20, l21, l22, l23, l24, l25, l27, l31, l32, l40, l46, l48, l50, l57, l59, l63, l86, l96, l97, l100, l110, l114, l122, l127, l200, l255, l300, l319, l320, l340, l441, l456, l580, l600, l800, l886, l1206, l1526, J_add, J_sub, J_mul, J_neg, J_lt, J_le, J_eq, jT, jF, iT, iF, eT, eF, aT, aF, ite_true, ite_false, ite_not, bs]
      · unfold m_X12_fault
        rw [p0, c1]
        simp (disch := omega) only [R0.1.r4, b4, j_X12_fault_33, lm8, lm2, lm1, l0, l1, l2, l3, l4, l5, l6, l7, l8, l9, l10, l11, l12, l13, l14, l15, l16, l17, l18, l19, l20, l21, l22, l23, l24, l25, l27, l31, l32, l40, l46, l48, l50, l57, l59, l63, l86, l96, l97, l100, l110, l114, l122, l127, l200, l255, l300, l319, l320, l340, l441, l456, l580, l600, l800, l886, l1206, l1526, J_add, J_sub, J_mul, J_neg, J_lt, J_le, J_eq, jT, jF, iT, iF, eT, eF, aT, aF, ite_true, ite_false, ite_not, bs]
    · have c0' : a < 0 ∨ 0 < a := by omega
      have c1' : a < 1 ∨ 1 < a := by omega
      refine ⟨-1, k0, ?_, ?_, FA⟩
      · unfold m_X11_fault
        simp (disch := first | omega | assumption) only [lm1, lm8, lm2, lm1, l0, l1, l2, l3, l4, l5, l6, l7, l8, l9, l10, l11, l12, l13, l14, l15, l16, l17, l18, l19, l20, l21, l22, l23, l24, l25, l27, l31, l32, l40, l46, l48, l50, l57, l59, l63, l86, l96, l97, l100, l110, l114, l122, l127, l200, l255, l300, l319, l320, l340, l441, l456, l580, l600, l800, l886, l1206, l1526, J_add, J_sub, J_mul, J_neg, J_lt, J_le, J_eq, jT, jF, iT, iF, eT, eF, aT, aF, ite_true, ite_false, ite_not, bs]
      · unfold m_X12_fault
        rw [p0]
        simp (disch := first | omega | assumption) only [j_X12_fault_33, lm1, lm8, lm2, lm1, l0, l1, l2, l3, l4, l5, l6, l7, l8, l9, l10, l11, l12, l13, l14, l15, l16, l17, l18, l19, l20, l21, l22, l23, l24, l25, l27, l31, l32, l40, l46, l48, l50, l57, l59, l63, l86, l96, l97, l100, l110, l114, l122, l127, l200, l255, l300, l319, l320, l340, l441, l456, l580, l600, l800, l886, l1206, l1526, J_add, J_sub, J_mul, J_neg, J_lt, J_le, J_eq, jT, jF, iT, iF, eT, eF, aT, aF, ite_true, ite_false, ite_not, bs]
theorem SBo.count (M : SBo h x o S) {a : Int} (a0 : -2147483648 ≤ a) (a1 : a < 2147483648) : Qy h x o (m_X11_count x (J a) h) (m_X12_count o (J a)) := by
  obtain ⟨p0, F0, M0⟩ := M.code
  have R0 := M0.2.2.1
  have tg := M.2.1.tag
  generalize wE h o 0 0 = k0 at *
  have FA : FR (Asc x o) h k0 := F0.mono (fun b k q => Or.inr (Or.inl q))
  by_cases c : 0 ≤ a ∧ a < 3
  · have hm := M.2.1.howMany c.1 c.2
    have n2 := M.2.2.2.1.2.2.1 a c.1 c.2
    have ei : m_X12_in (J a) (J 0) (J 2) k0 = some (J 1) := X12_in_T (by omega) (by omega) (by omega)
    have cm : alI k0 (o + 5) (J a) = some (J (sN S a)) := by
      have := R0.2.2.2.2.2.1 a c.1 c.2
      rw [show 3 * (0 : Int) + a = a by omega] at this
      rw [alI_ok R0.1.a5 c.1 (by omega) (by omega), this]
    refine ⟨sN S a, k0, ?_, ?_, FA⟩
    · unfold m_X11_count
      simp (disch := omega) only [M.r0, rc_ok tg, m_X9_isSort, j_X9_isSort_14, zb1, hm, j_X11_count_24, lm8, lm2, lm1, l0, l1, l2, l3, l4, l5, l6, l7, l8, l9, l10, l11, l12, l13, l14, l15, l16, l17, l18, l19, l20, l21, l22, l23, l24, l25, l27, l31, l32, l40, l46, l48, l50, l57, l59, l63, l86, l96, l97, l100, l110, l114, l122, l127, l200, l255, l300, l319, l320, l340, l441, l456, l580, l600, l800, l886, l1206, l1526, J_add, J_sub, J_mul, J_neg, J_lt, J_le, J_eq, jT, jF, iT, iF, eT, eF, aT, aF, ite_true, ite_false, ite_not, bs]
    · unfold m_X12_count
      rw [p0]
      simp (disch := omega) only [ei, R0.1.r5, cm, j_X12_count_25, lm8, lm2, lm1, l0, l1, l2, l3, l4, l5, l6, l7, l8, l9, l10, l11, l12, l13, l14, l15, l16, l17, l18, l19, l20, l21, l22, l23, l24, l25, l27, l31, l32, l40, l46, l48, l50, l57, l59, l63, l86, l96, l97, l100, l110, l114, l122, l127, l200, l255, l300, l319, l320, l340, l441, l456, l580, l600, l800, l886, l1206, l1526, J_add, J_sub, J_mul, J_neg, J_lt, J_le, J_eq, jT, jF, iT, iF, eT, eF, aT, aF, ite_true, ite_false, ite_not, bs]
  · have ei : m_X12_in (J a) (J 0) (J 2) k0 = some (J 0) := X12_in_F (by omega) (by omega) (by omega) (by omega)
    refine ⟨-2, k0, ?_, ?_, FA⟩
    · unfold m_X11_count
      by_cases n : a < 0
      · simp (disch := omega) only [M.r0, rc_ok tg, m_X9_isSort, j_X9_isSort_14, zb0, j_X11_count_24, lm2, lm8, lm2, lm1, l0, l1, l2, l3, l4, l5, l6, l7, l8, l9, l10, l11, l12, l13, l14, l15, l16, l17, l18, l19, l20, l21, l22, l23, l24, l25, l27, l31, l32, l40, l46, l48, l50, l57, l59, l63, l86, l96, l97, l100, l110, l114, l122, l127, l200, l255, l300, l319, l320, l340, l441, l456, l580, l600, l800, l886, l1206, l1526, J_add, J_sub, J_mul, J_neg, J_lt, J_le, J_eq, jT, jF, iT, iF, eT, eF, aT, aF, ite_true, ite_false, ite_not, bs]
      · simp (disch := omega) only [M.r0, rc_ok tg, m_X9_isSort, j_X9_isSort_14, zb0, j_X11_count_24, lm2, lm8, lm2, lm1, l0, l1, l2, l3, l4, l5, l6, l7, l8, l9, l10, l11, l12, l13, l14, l15, l16, l17, l18, l19, l20, l21, l22, l23, l24, l25, l27, l31, l32, l40, l46, l48, l50, l57, l59, l63, l86, l96, l97, l100, l110, l114, l122, l127, l200, l255, l300, l319, l320, l340, l441, l456, l580, l600, l800, l886, l1206, l1526, J_add, J_sub, J_mul, J_neg, J_lt, J_le, J_eq, jT, jF, iT, iF, eT, eF, aT, aF, ite_true, ite_false, ite_not, bs]
    · unfold m_X12_count
      rw [p0]
      simp (disch := omega) only [ei, j_X12_count_25, lm2, lm8, lm2, lm1, l0, l1, l2, l3, l4, l5, l6, l7, l8, l9, l10, l11, l12, l13, l14, l15, l16, l17, l18, l19, l20, l21, l22, l23, l24, l25, l27, l31, l32, l40, l46, l48, l50, l57, l59, l63, l86, l96, l97, l100, l110, l114, l122, l127, l200, l255, l300, l319, l320, l340, l441, l456, l580, l600, l800, l886, l1206, l1526, J_add, J_sub, J_mul, J_neg, J_lt, J_le, J_eq, jT, jF, iT, iF, eT, eF, aT, aF, ite_true, ite_false, ite_not, bs]
end FD2
