/-! PURE PART: text, sort 2 -/
section TXU
variable {h : Hp} {x o : Nat} {S : Sx} {t w : Int}
theorem SBo.textU (M : SBo h x o S) (w0 : -2147483648 ≤ w) (w1 : w < 2147483648) (c : pcT S 2 w ≠ -1) : Sp h x o (m_X11_text x (J 2) (J w) h) (m_X12_text o (J 2) (J w)) := by
  have pe := M.place (t := 2) (by omega) (by omega) w0 w1
  obtain ⟨m1, m2, m3, m4, m5, m6⟩ := id M
  obtain ⟨-, p0, p1, p2, pw, pw'⟩ := pc_rg m4 c
  have n2 := m4.2.2.1 2 (by omega) (by omega)
  generalize pcT S 2 w = p at *
  have tg := m2.tag
  have Rd := m1.2.2.2.1.2
  have hL := m4.1
  obtain ⟨h6, e6, F6, E6, K6⟩ := CT.takeU (r := x + 43) (a := x + 1 + 1) Rd m2.2.1 (by omega)
  have F6' : FR (fun b k => (x + 43 ≤ b ∧ b ≤ x + 65) ∨ (b = x + 2 ∧ (k = 2 ∨ k = 3 ∨ k = 4))) h h6 := F6.mono (fun b k q => by unfold Atk ATk at q; omega)
  have C6 := m2.frame F6' (fun b k b0 b1 q => by omega)
  have rdr := fun (g : Hp) (P : RP g o (sB S) (sL S)) => P.readU
  have rE : ∀ q : Int, q ≤ 600 → ∀ f : Int, f ≠ 0 → f ≤ 4 → 8 * q + f ≠ 9999 := fun q _ f _ _ => by omega
  generalize hT : (tyU (sB S) (sL S) (nlN (sB S) (sL S) 2)).2 = T at *
  generalize hEE : feT (sB S) (sL S) 2 (tyU (sB S) (sL S) (nlN (sB S) (sL S) 2)).1 = E at *
  obtain ⟨f, pl, s4, s5, frg, fz, fnz⟩ := E6
  have plr : -1 ≤ pl ∧ pl ≤ 600 := by
    by_cases q : f = 0
    · have := fz q
      omega
    · have := fnz q
      omega
  have g4 : gfI h6 (x + 43) 7 4 = some (J f) := by
    rw [gfI_ok (by rw [F6'.tag]; exact Rd.1)]
    exact congrArg (fun z => some (J z)) s4
  have tpt : hTag h6 (x + 1 + 1) = 10 := C6.2.1.tag
  have k1e : pfI h6 (x + 1 + 1) 10 1 (J 0) = some (wE h6 (x + 1 + 1) 1 0) := pfI_ok (k := 1) tpt
  have G1 : FR (fun b k => (b = x + 1 ∧ (k = 1 ∨ k = 2)) ∨ (b = x + 1 + 1 ∧ k = 1)) h6 (wE h6 (x + 1 + 1) 1 0) := FR.wE (A := fun b k => (b = x + 1 ∧ (k = 1 ∨ k = 2)) ∨ (b = x + 1 + 1 ∧ k = 1)) (Or.inr ⟨rfl, rfl⟩)
  have u1 : hE (wE h6 (x + 1 + 1) 1 0) (x + 1 + 1) 1 = 0 := by rw [hE_wE (by omega) (by omega) (by omega) (by omega), if_pos ⟨rfl, rfl⟩]
  generalize wE h6 (x + 1 + 1) 1 0 = k1 at *
  have r4_1 : gfI k1 (x + 43) 7 4 = some (J f) := by
    rw [gfI_ok (by rw [G1.tag, F6'.tag]; exact Rd.1)]
    exact congrArg (fun z => some (J z)) (by rw [← s4]; exact G1.e (by omega))
  have k2e : pfI k1 (x + 1) 9 1 (J f) = some (wE k1 (x + 1) 1 f) := pfI_ok (k := 1) (by rw [G1.tag]; exact C6.tag)
  have G2 : FR (fun b k => b = x + 1 ∧ k = 1) k1 (wE k1 (x + 1) 1 f) := FR.wE (A := fun b k => b = x + 1 ∧ k = 1) ⟨rfl, rfl⟩
  have u2 : hE (wE k1 (x + 1) 1 f) (x + 1) 1 = f := by rw [hE_wE (by omega) (by omega) (by omega) (by omega), if_pos ⟨rfl, rfl⟩]
  generalize wE k1 (x + 1) 1 f = k2 at *
  have r5_2 : gfI k2 (x + 43) 7 5 = some (J pl) := by
    rw [gfI_ok (by rw [G2.tag, G1.tag, F6'.tag]; exact Rd.1)]
    exact congrArg (fun z => some (J z)) (by rw [← s5]; exact (G2.e (by omega)).trans (G1.e (by omega)))
  have k3e : pfI k2 (x + 1) 9 2 (J pl) = some (wE k2 (x + 1) 2 pl) := pfI_ok (k := 2) (by rw [G2.tag, G1.tag]; exact C6.tag)
  have G3 : FR (fun b k => b = x + 1 ∧ k = 2) k2 (wE k2 (x + 1) 2 pl) := FR.wE (A := fun b k => b = x + 1 ∧ k = 2) ⟨rfl, rfl⟩
  have u3 : hE (wE k2 (x + 1) 2 pl) (x + 1) 2 = pl := by rw [hE_wE (by omega) (by omega) (by omega) (by omega), if_pos ⟨rfl, rfl⟩]
  generalize wE k2 (x + 1) 2 pl = k3 at *
  have GG := (G1.trans (G2.mono (fun b k q => Or.inl ⟨q.1, Or.inl q.2⟩))).trans (G3.mono (fun b k q => Or.inl ⟨q.1, Or.inr q.2⟩))
  have r4_3 : gfI k3 (x + 43) 7 4 = some (J f) := by
    rw [gfI_ok (by rw [GG.tag, F6'.tag]; exact Rd.1)]
    exact congrArg (fun z => some (J z)) (by rw [← s4]; exact GG.e (by omega))
  have C3 := C6.reh GG (by rw [G3.e (by omega), G2.e (by omega), u1]) (by rw [G3.e (by omega), u2]) u3 (by omega)
  have T3 : top k3 = top h := by rw [GG.1, F6'.1]
  have rx : ∀ {g : Hp}, top g = top h → gfR g x 11 0 = some (x + 1) ∧ gfR g x 11 2 = some (x + 43) ∧ gfR g (x + 1) 9 0 = some (x + 1 + 1) := fun q => ⟨gfR_ok (by show (top _).1 _ = _; rw [q]; exact m1.1) (by show (top _).2.2 _ _ = _; rw [q]; exact m1.2.1), gfR_ok (by show (top _).1 _ = _; rw [q]; exact m1.1) (by show (top _).2.2 _ _ = _; rw [q]; exact m1.2.2.2.1.1), gfR_ok (by show (top _).1 _ = _; rw [q]; exact tg) (by show (top _).2.2 _ _ = _; rw [q]; exact m2.1.2.1.1)⟩
  have x0 := rx (g := h) rfl
  have x6 := rx F6'.1
  have x1 := rx (G1.1.trans F6'.1)
  have x2 := rx (G2.1.trans (G1.1.trans F6'.1))
  have x3 := rx T3
  have FC : FR (fun b _ => Acl x b) h k3 := (F6'.mono (fun b k q => by unfold Acl; omega)).trans (GG.mono (fun b k q => by unfold Acl; omega))
  have W3 : SW (sB S, 0, f, pl, S.2.2.2.2) := m4.reh (by omega) (by omega)
  have rd7 : hTag h (x + 43) = 7 := Rd.1
  have ei : ∀ g, m_X12_in (J 2) (J 0) (J 2) g = some (J 1) := fun g => X12_in_T (by omega) (by omega) (by omega)
  by_cases f0 : f = 0
  · have E9 := (fz f0).2
    have K := K6 E9
    have tg3 : hTag k3 (x + 1) = 9 := C3.tag
    obtain ⟨ga, ka, Fa, Ca⟩ := C3.keepU (r := x + 43) (p := p) (T := T) (by rw [T3]; exact Rd) (by omega) p0 p1 p2 n2.2 (K.frame GG (by omega) (fun k => by omega))
    have FA : FR (fun b _ => Acl x b) h ga := FC.trans (Fa.mono (fun b k q => by unfold AKp at q; unfold Acl; omega))
    have R3 := m3.frame FA (fun b k b0 b1 q => by unfold Acl at q; omega)
    obtain ⟨g1, g2, g3, g4_, g5, e1, e2, e3, e4, e5, e6_, e7, e8, e9, e10, FP, PP, z2, z3, z4⟩ := R3.pre m4
    obtain ⟨hr, er, Fr, ⟨z, pp, y3, y4, dd⟩, X⟩ := rdr g5 PP
    have dz := DCD.eq dd (⟨frg, fz, fnz⟩ : DCD f pl E)
    have Fr' : FR (Awk o) g5 hr := Fr.mono (fun b k q => by unfold Art Alf Arl Ard at q; unfold Awk; omega)
    have R6 := R3.reh (FP.trans Fr') (by rw [Fr.e (by unfold Art Alf Arl Ard; omega), z2]) (y3.trans dz.1) (y4.trans dz.2)
    have Xc := X E9
    obtain ⟨gb, gc, a1, tb, st, Fk, Rk⟩ := R6.keepU (p := p) (T := T) p0 p1 p2 n2.2 (Xc.2 rfl).2
    have R5 := R3.reh FP z2 z3 z4
    have W5 : SW (sB S, 0, 0, -1, S.2.2.2.2) := m4.reh (by omega) (by omega)
    have FO : FR (A0 o) ga gc := ((FP.trans Fr').mono (fun b k q => by unfold Awk at q; unfold A0; omega)).trans Fk
    have Cz := Ca.frame FO (fun b k b0 b1 q => by unfold A0 at q; omega)
    have Wz := SW.kpU (p := p) W3 p0 p1 p2 K.2.1
    refine ⟨p, ga, gc, _, ?_, ?_, (FA.mono (fun b k q => by unfold Acl at q; unfold St; omega)).trans (FO.mono (fun b k q => Or.inr (Or.inr q))), ⟨by rw [FO.1, FA.1]; exact m1, Cz, Rk, Wz, m5, m6⟩, FA.mono (fun b k q => by unfold Acl at q; unfold St; omega)⟩
    · unfold m_X11_text
      simp (disch := omega) only [x0.1, x0.2.1, x0.2.2, rc_ok tg, pe, rc_ok rd7, e6, x6.1, x6.2.2, k1e, x1.1, x1.2.1, r4_1, k2e, x2.1, x2.2.1, r5_2, k3e, x3.1, x3.2.1, r4_3, rc_ok tg3, ka, lm1, lm8, lm2, lm1, l0, l1, l2, l3, l4, l5, l6, l7, l8, l9, l10, l11, l12, l13, l14, l15, l16, l17, l18, l19, l20, l21, l22, l23, l24, l25, l27, l31, l32, l40, l46, l48, l50, l57, l59, l63, l86, l96, l97, l100, l110, l114, l122, l127, l200, l255, l300, l319, l320, l340, l441, l456, l580, l600, l800, l886, l1206, l1526, J_add, J_sub, J_mul, J_neg, J_lt, J_le, J_eq, jT, jF, iT, iF, eT, eF, aT, aF, ite_true, ite_false, ite_not, bs]
    · unfold m_X12_text
      rw [e1, bs, e2, bs, e3, bs, e4, bs, e5, bs, e6_, bs, e7, bs, e8, bs, e9, bs, e10, bs]
      rw [decide_eq_true E9] at er
      have cm : ∀ g, RS g o 0 (sB S, 0, f, pl, S.2.2.2.2) → alI g (o + 5) (J 2) = some (J (sN S 2)) := fun g R => by
        have := R.2.2.2.2.2.1 2 (by omega) (by omega)
        rw [show 3 * (0 : Int) + 2 = 2 by omega] at this
        rw [alI_ok R.1.a5 (by omega) (by omega) (by omega), this]
        rfl
      have cm5 : alI g5 (o + 5) (J 2) = some (J (sN S 2)) := by
        have := R5.2.2.2.2.2.1 2 (by omega) (by omega)
        rw [show 3 * (0 : Int) + 2 = 2 by omega] at this
        rw [alI_ok R5.1.a5 (by omega) (by omega) (by omega), this]
        rfl
      have cm6 := cm hr R6
      have a1' : asI hr (o + 5) (J 2) (J (max (sN S 2) (p + 1))) = some gb := a1
      by_cases cw : w = -1
      · have pn := pw cw
        rw [show max (sN S 2) (p + 1) = sN S 2 + 1 by omega] at a1'
        rw [pn] at st ⊢
        rw [cw]
        simp (disch := omega) only [j_X12_text_75, j_X12_text_100, j_X12_text_118, ei, R5.1.r5, cm5, rc_ok R5.1.tag, er, R6.1.r5, cm6, a1', tb.r8, rc_ok tb.tag, st, lm1, bI, bN, cond_true, lm8, lm2, lm1, l0, l1, l2, l3, l4, l5, l6, l7, l8, l9, l10, l11, l12, l13, l14, l15, l16, l17, l18, l19, l20, l21, l22, l23, l24, l25, l27, l31, l32, l40, l46, l48, l50, l57, l59, l63, l86, l96, l97, l100, l110, l114, l122, l127, l200, l255, l300, l319, l320, l340, l441, l456, l580, l600, l800, l886, l1206, l1526, J_add, J_sub, J_mul, J_neg, J_lt, J_le, J_eq, jT, jF, iT, iF, eT, eF, aT, aF, ite_true, ite_false, ite_not, bs]
      · obtain ⟨pq, nd, lt⟩ := pw' cw
        rw [show max (sN S 2) (p + 1) = sN S 2 + 0 by omega] at a1'
        have is_ := R5.is_ W5 (t := 2) (by omega) (by omega) w0 w1
        rw [show ndB (sB S, 0, 0, -1, S.2.2.2.2) 2 w = ndB S 2 w from rfl, nd] at is_
        rw [pq] at st ⊢
        have cw' : w < -1 ∨ -1 < w := by omega
        simp (disch := first | omega | assumption) only [j_X12_text_75, j_X12_text_100, j_X12_text_118, ei, rc_ok R5.1.tag, is_, er, R6.1.r5, cm6, a1', tb.r8, rc_ok tb.tag, st, lm1, bI, bN, cond_true, lm8, lm2, lm1, l0, l1, l2, l3, l4, l5, l6, l7, l8, l9, l10, l11, l12, l13, l14, l15, l16, l17, l18, l19, l20, l21, l22, l23, l24, l25, l27, l31, l32, l40, l46, l48, l50, l57, l59, l63, l86, l96, l97, l100, l110, l114, l122, l127, l200, l255, l300, l319, l320, l340, l441, l456, l580, l600, l800, l886, l1206, l1526, J_add, J_sub, J_mul, J_neg, J_lt, J_le, J_eq, jT, jF, iT, iF, eT, eF, aT, aF, ite_true, ite_false, ite_not, bs]
  · have E9 : E ≠ 9999 := by
      have := fnz f0
      omega
    have f0' : 0 < f := by omega
    have R3 := m3.frame FC (fun b k b0 b1 q => by unfold Acl at q; omega)
    obtain ⟨g1, g2, g3, g4_, g5, e1, e2, e3, e4, e5, e6_, e7, e8, e9, e10, FP, PP, z2, z3, z4⟩ := R3.pre m4
    obtain ⟨hr, er, Fr, ⟨z, pp, y3, y4, dd⟩, X⟩ := rdr g5 PP
    have dz := DCD.eq dd (⟨frg, fz, fnz⟩ : DCD f pl E)
    have Fr' : FR (Awk o) g5 hr := Fr.mono (fun b k q => by unfold Art Alf Arl Ard at q; unfold Awk; omega)
    have R6 := R3.reh (FP.trans Fr') (by rw [Fr.e (by unfold Art Alf Arl Ard; omega), z2]) (y3.trans dz.1) (y4.trans dz.2)
    have R5 := R3.reh FP z2 z3 z4
    have W5 : SW (sB S, 0, 0, -1, S.2.2.2.2) := m4.reh (by omega) (by omega)
    have FO : FR (Awk o) k3 hr := FP.trans Fr'
    have Cz := C3.frame FO (fun b k b0 b1 q => by unfold Awk at q; omega)
    refine ⟨-1, k3, hr, _, ?_, ?_, (FC.mono (fun b k q => by unfold Acl at q; unfold St; omega)).trans (FO.mono (fun b k q => by unfold Awk at q; unfold St A0; omega)), ⟨by rw [FO.1, FC.1]; exact m1, Cz, R6, W3, m5, m6⟩, FC.mono (fun b k q => by unfold Acl at q; unfold St; omega)⟩
    · unfold m_X11_text
      simp (disch := omega) only [x0.1, x0.2.1, x0.2.2, rc_ok tg, pe, rc_ok rd7, e6, x6.1, x6.2.2, k1e, x1.1, x1.2.1, r4_1, k2e, x2.1, x2.2.1, r5_2, k3e, x3.1, x3.2.1, r4_3, lm1, lm8, lm2, lm1, l0, l1, l2, l3, l4, l5, l6, l7, l8, l9, l10, l11, l12, l13, l14, l15, l16, l17, l18, l19, l20, l21, l22, l23, l24, l25, l27, l31, l32, l40, l46, l48, l50, l57, l59, l63, l86, l96, l97, l100, l110, l114, l122, l127, l200, l255, l300, l319, l320, l340, l441, l456, l580, l600, l800, l886, l1206, l1526, J_add, J_sub, J_mul, J_neg, J_lt, J_le, J_eq, jT, jF, iT, iF, eT, eF, aT, aF, ite_true, ite_false, ite_not, bs]
    · unfold m_X12_text
      rw [e1, bs, e2, bs, e3, bs, e4, bs, e5, bs, e6_, bs, e7, bs, e8, bs, e9, bs, e10, bs]
      rw [decide_eq_false E9] at er
      have cm5 : alI g5 (o + 5) (J 2) = some (J (sN S 2)) := by
        have := R5.2.2.2.2.2.1 2 (by omega) (by omega)
        rw [show 3 * (0 : Int) + 2 = 2 by omega] at this
        rw [alI_ok R5.1.a5 (by omega) (by omega) (by omega), this]
        rfl
      by_cases cw : w = -1
      · have pn := pw cw
        rw [cw]
        simp (disch := omega) only [j_X12_text_75, ei, R5.1.r5, cm5, rc_ok R5.1.tag, er, lm1, bI, bN, cond_false, lm8, lm2, lm1, l0, l1, l2, l3, l4, l5, l6, l7, l8, l9, l10, l11, l12, l13, l14, l15, l16, l17, l18, l19, l20, l21, l22, l23, l24, l25, l27, l31, l32, l40, l46, l48, l50, l57, l59, l63, l86, l96, l97, l100, l110, l114, l122, l127, l200, l255, l300, l319, l320, l340, l441, l456, l580, l600, l800, l886, l1206, l1526, J_add, J_sub, J_mul, J_neg, J_lt, J_le, J_eq, jT, jF, iT, iF, eT, eF, aT, aF, ite_true, ite_false, ite_not, bs]
      · obtain ⟨pq, nd, lt⟩ := pw' cw
        have is_ := R5.is_ W5 (t := 2) (by omega) (by omega) w0 w1
        rw [show ndB (sB S, 0, 0, -1, S.2.2.2.2) 2 w = ndB S 2 w from rfl, nd] at is_
        have cw' : w < -1 ∨ -1 < w := by omega
        simp (disch := first | omega | assumption) only [j_X12_text_75, ei, rc_ok R5.1.tag, is_, er, lm1, bI, bN, cond_true, cond_false, lm8, lm2, lm1, l0, l1, l2, l3, l4, l5, l6, l7, l8, l9, l10, l11, l12, l13, l14, l15, l16, l17, l18, l19, l20, l21, l22, l23, l24, l25, l27, l31, l32, l40, l46, l48, l50, l57, l59, l63, l86, l96, l97, l100, l110, l114, l122, l127, l200, l255, l300, l319, l320, l340, l441, l456, l580, l600, l800, l886, l1206, l1526, J_add, J_sub, J_mul, J_neg, J_lt, J_le, J_eq, jT, jF, iT, iF, eT, eF, aT, aF, ite_true, ite_false, ite_not, bs]
end TXU
