/-! PURE PART: text, both sides -/
def pcT (S : Sx) (t w : Int) : Int := if 0 ≤ t ∧ t < 3 then (if w = -1 then (if 2 ≤ sN S t then -1 else sN S t) else if ndB S t w = true then w else -1) else -1
section TX3
variable {h : Hp} {x o : Nat} {S : Sx} {t w : Int}
theorem SBo.place (M : SBo h x o S) (t0 : -2147483648 ≤ t) (t1 : t < 2147483648) (w0 : -2147483648 ≤ w) (w1 : w < 2147483648) : m_X9_placeFor (x + 1) (J t) (J w) h = some (J (pcT S t w)) := by
  have tg := M.2.1.tag
  unfold pcT
  by_cases c : 0 ≤ t ∧ t < 3
  · rw [if_pos c]
    have hm := M.2.1.howMany c.1 c.2
    have it := M.2.1.isTold M.2.2.2.1 c.1 c.2 w0 w1
    have n2 := M.2.2.2.1.2.2.1 t c.1 c.2
    by_cases cw : w = -1
    · rw [if_pos cw, cw]
      by_cases cn : 2 ≤ sN S t
      · rw [if_pos cn]
        simp (disch := omega) only [m_X9_placeFor, j_X9_placeFor_48, j_X9_placeFor_33, rc_ok tg, m_X9_isSort, j_X9_isSort_14, zb1, hm, lm1, lm8, lm2, lm1, l0, l1, l2, l3, l4, l5, l6, l7, l8, l9, l10, l11, l12, l13, l14, l15, l16, l17, l18, l19, l20, l21, l22, l23, l24, l25, l27, l31, l32, l40, l46, l48, l50, l57, l59, l63, l86, l96, l97, l100, l110, l114, l122, l127, l200, l255, l300, l319, l320, l340, l441, l456, l580, l600, l800, l886, l1206, l1526, J_add, J_sub, J_mul, J_neg, J_lt, J_le, J_eq, jT, jF, iT, iF, eT, eF, aT, aF, ite_true, ite_false, ite_not, bs]
      · rw [if_neg cn]
        simp (disch := omega) only [m_X9_placeFor, j_X9_placeFor_48, j_X9_placeFor_33, rc_ok tg, m_X9_isSort, j_X9_isSort_14, zb1, hm, lm1, lm8, lm2, lm1, l0, l1, l2, l3, l4, l5, l6, l7, l8, l9, l10, l11, l12, l13, l14, l15, l16, l17, l18, l19, l20, l21, l22, l23, l24, l25, l27, l31, l32, l40, l46, l48, l50, l57, l59, l63, l86, l96, l97, l100, l110, l114, l122, l127, l200, l255, l300, l319, l320, l340, l441, l456, l580, l600, l800, l886, l1206, l1526, J_add, J_sub, J_mul, J_neg, J_lt, J_le, J_eq, jT, jF, iT, iF, eT, eF, aT, aF, ite_true, ite_false, ite_not, bs]
    · rw [if_neg cw]
      have cw' : w < -1 ∨ -1 < w := by omega
      cases q : ndB S t w
      · rw [q] at it
        rw [if_neg (by simp)]
        simp (disch := first | omega | assumption) only [m_X9_placeFor, j_X9_placeFor_48, j_X9_placeFor_33, rc_ok tg, m_X9_isSort, j_X9_isSort_14, zb1, it, lm1, bI, bN, cond_false, lm8, lm2, lm1, l0, l1, l2, l3, l4, l5, l6, l7, l8, l9, l10, l11, l12, l13, l14, l15, l16, l17, l18, l19, l20, l21, l22, l23, l24, l25, l27, l31, l32, l40, l46, l48, l50, l57, l59, l63, l86, l96, l97, l100, l110, l114, l122, l127, l200, l255, l300, l319, l320, l340, l441, l456, l580, l600, l800, l886, l1206, l1526, J_add, J_sub, J_mul, J_neg, J_lt, J_le, J_eq, jT, jF, iT, iF, eT, eF, aT, aF, ite_true, ite_false, ite_not, bs]
      · rw [q] at it
        rw [if_pos rfl]
        simp (disch := first | omega | assumption) only [m_X9_placeFor, j_X9_placeFor_48, j_X9_placeFor_33, rc_ok tg, m_X9_isSort, j_X9_isSort_14, zb1, it, lm1, bI, bN, cond_true, lm8, lm2, lm1, l0, l1, l2, l3, l4, l5, l6, l7, l8, l9, l10, l11, l12, l13, l14, l15, l16, l17, l18, l19, l20, l21, l22, l23, l24, l25, l27, l31, l32, l40, l46, l48, l50, l57, l59, l63, l86, l96, l97, l100, l110, l114, l122, l127, l200, l255, l300, l319, l320, l340, l441, l456, l580, l600, l800, l886, l1206, l1526, J_add, J_sub, J_mul, J_neg, J_lt, J_le, J_eq, jT, jF, iT, iF, eT, eF, aT, aF, ite_true, ite_false, ite_not, bs]
  · rw [if_neg c]
    by_cases n : t < 0
    · simp (disch := omega) only [m_X9_placeFor, rc_ok tg, m_X9_isSort, j_X9_isSort_14, zb0, lm1, lm8, lm2, lm1, l0, l1, l2, l3, l4, l5, l6, l7, l8, l9, l10, l11, l12, l13, l14, l15, l16, l17, l18, l19, l20, l21, l22, l23, l24, l25, l27, l31, l32, l40, l46, l48, l50, l57, l59, l63, l86, l96, l97, l100, l110, l114, l122, l127, l200, l255, l300, l319, l320, l340, l441, l456, l580, l600, l800, l886, l1206, l1526, J_add, J_sub, J_mul, J_neg, J_lt, J_le, J_eq, jT, jF, iT, iF, eT, eF, aT, aF, ite_true, ite_false, ite_not, bs]
    · simp (disch := omega) only [m_X9_placeFor, rc_ok tg, m_X9_isSort, j_X9_isSort_14, zb0, lm1, lm8, lm2, lm1, l0, l1, l2, l3, l4, l5, l6, l7, l8, l9, l10, l11, l12, l13, l14, l15, l16, l17, l18, l19, l20, l21, l22, l23, l24, l25, l27, l31, l32, l40, l46, l48, l50, l57, l59, l63, l86, l96, l97, l100, l110, l114, l122, l127, l200, l255, l300, l319, l320, l340, l441, l456, l580, l600, l800, l886, l1206, l1526, J_add, J_sub, J_mul, J_neg, J_lt, J_le, J_eq, jT, jF, iT, iF, eT, eF, aT, aF, ite_true, ite_false, ite_not, bs]
theorem pc_rg (W : SW S) (c : pcT S t w ≠ -1) : (0 ≤ t ∧ t < 3) ∧ 0 ≤ pcT S t w ∧ pcT S t w < 2 ∧ pcT S t w ≤ sN S t ∧ (w = -1 → pcT S t w = sN S t) ∧ (w ≠ -1 → pcT S t w = w ∧ ndB S t w = true ∧ w < sN S t) := by
  unfold pcT at *
  by_cases c1 : 0 ≤ t ∧ t < 3
  · have n2 := W.2.2.1 t c1.1 c1.2
    rw [if_pos c1] at c ⊢
    refine ⟨c1, ?_⟩
    by_cases c2 : w = -1
    · rw [if_pos c2] at c ⊢
      by_cases c3 : 2 ≤ sN S t
      · rw [if_pos c3] at c
        exact absurd rfl c
      · rw [if_neg c3] at c ⊢
        exact ⟨by omega, by omega, by omega, fun _ => rfl, fun q => absurd c2 q⟩
    · rw [if_neg c2] at c ⊢
      by_cases c3 : ndB S t w = true
      · rw [if_pos c3] at c ⊢
        have q : 0 ≤ w ∧ w < sN S t := of_decide_eq_true c3
        exact ⟨by omega, by omega, by omega, fun q => absurd q c2, fun _ => ⟨rfl, c3, q.2⟩⟩
      · rw [if_neg c3] at c
        exact absurd rfl c
  · rw [if_neg c1] at c
    exact absurd rfl c
theorem pc_no (W : SW S) (c : pcT S t w = -1) : ¬ (0 ≤ t ∧ t < 3) ∨ ((0 ≤ t ∧ t < 3) ∧ ((w = -1 ∧ sN S t = 2) ∨ (w ≠ -1 ∧ ndB S t w = false))) := by
  unfold pcT at c
  by_cases c1 : 0 ≤ t ∧ t < 3
  · have n2 := W.2.2.1 t c1.1 c1.2
    rw [if_pos c1] at c
    refine Or.inr ⟨c1, ?_⟩
    by_cases c2 : w = -1
    · rw [if_pos c2] at c
      by_cases c3 : 2 ≤ sN S t
      · exact Or.inl ⟨c2, by omega⟩
      · rw [if_neg c3] at c
        omega
    · rw [if_neg c2] at c
      cases c3 : ndB S t w
      · exact Or.inr ⟨c2, rfl⟩
      · rw [c3, if_pos rfl] at c
        exact absurd c c2
  · exact Or.inl c1
theorem RS.pre (R : RS h o 0 S) (W : SW S) : ∃ g1 g2 g3 g4 g5, pfI h o 12 0 (0 : Int32) = some g1 ∧ gfR g1 o 12 2 = some (o + 2) ∧ alI g1 (o + 2) (0 : Int32) = some (J (sL S)) ∧ pfI g1 o 12 10 (J (sL S)) = some g2 ∧ gfR g2 o 12 2 = some (o + 2) ∧ asI g2 (o + 2) (0 : Int32) (0 : Int32) = some g3 ∧ gfR g3 o 12 3 = some (o + 3) ∧ asI g3 (o + 3) (0 : Int32) (0 : Int32) = some g4 ∧ gfR g4 o 12 4 = some (o + 4) ∧ asI g4 (o + 4) (0 : Int32) (-1 : Int32) = some g5 ∧ FR (Awk o) h g5 ∧ RP g5 o (sB S) (sL S) ∧ hE g5 (o + 2) 0 = 0 ∧ hE g5 (o + 3) 0 = 0 ∧ hE g5 (o + 4) 0 = -1 := by
  obtain ⟨r1, r2, r3, -⟩ := R
  have wl := W.1
  have F1 : FR (Awk o) h (wE h o 0 0) := FR.wE (A := Awk o) (Or.inl rfl)
  have e1 : pfI h o 12 0 (0 : Int32) = some (wE h o 0 0) := pfI_ok (k := 0) (z := 0) r1.tag
  have v1 : hE (wE h o 0 0) (o + 2) 0 = sL S := by rw [hE_wE_ne (by omega), r3]
  have b1 : ∀ k, 0 ≤ k → k < 600 → hE (wE h o 0 0) (o + 1) k = sB S k := fun k k0 k1 => by
    have := r2 k k0 k1
    rw [show 600 * (0 : Int) + k = k by omega] at this
    rw [hE_wE_ne (by omega), this]
  generalize wE h o 0 0 = g1 at *
  have t1 : TR (top g1) o := by rw [F1.1]; exact r1
  have a1 : alI g1 (o + 2) (0 : Int32) = some (J (sL S)) := by rw [show (0 : Int32) = J 0 from rfl, alI_ok t1.a2 (by omega) (by omega) (by omega), v1]
  have F2 : FR (Awk o) g1 (wE g1 o 10 (sL S)) := FR.wE (A := Awk o) (Or.inl rfl)
  have e2 : pfI g1 o 12 10 (J (sL S)) = some (wE g1 o 10 (sL S)) := pfI_ok (k := 10) t1.tag
  have v2 : hE (wE g1 o 10 (sL S)) o 10 = sL S := by
    have := wl.1
    have := wl.2.1
    rw [hE_wE (by omega) (by omega) (by omega) (by omega), if_pos ⟨rfl, rfl⟩]
  have b2 : ∀ k, 0 ≤ k → k < 600 → hE (wE g1 o 10 (sL S)) (o + 1) k = sB S k := fun k k0 k1 => by rw [hE_wE_ne (by omega), b1 k k0 k1]
  generalize wE g1 o 10 (sL S) = g2 at *
  have t2 : TR (top g2) o := by rw [F2.1]; exact t1
  have F3 : FR (fun b k => b = o + 2 ∧ k = 0) g2 (wE g2 (o + 2) 0 0) := FR.wE (A := fun b k => b = o + 2 ∧ k = 0) ⟨rfl, rfl⟩
  have e3 : asI g2 (o + 2) (0 : Int32) (0 : Int32) = some (wE g2 (o + 2) 0 0) := asI_ok (i := 0) (z := 0) t2.a2 (by omega) (by omega) (by omega)
  have v3 : hE (wE g2 (o + 2) 0 0) (o + 2) 0 = 0 := by rw [hE_wE (by omega) (by omega) (by omega) (by omega), if_pos ⟨rfl, rfl⟩]
  generalize wE g2 (o + 2) 0 0 = g3 at *
  have t3 : TR (top g3) o := by rw [F3.1]; exact t2
  have F4 : FR (fun b k => b = o + 3 ∧ k = 0) g3 (wE g3 (o + 3) 0 0) := FR.wE (A := fun b k => b = o + 3 ∧ k = 0) ⟨rfl, rfl⟩
  have e4 : asI g3 (o + 3) (0 : Int32) (0 : Int32) = some (wE g3 (o + 3) 0 0) := asI_ok (i := 0) (z := 0) t3.a3 (by omega) (by omega) (by omega)
  have v4 : hE (wE g3 (o + 3) 0 0) (o + 3) 0 = 0 := by rw [hE_wE (by omega) (by omega) (by omega) (by omega), if_pos ⟨rfl, rfl⟩]
  generalize wE g3 (o + 3) 0 0 = g4 at *
  have t4 : TR (top g4) o := by rw [F4.1]; exact t3
  have F5 : FR (fun b k => b = o + 4 ∧ k = 0) g4 (wE g4 (o + 4) 0 (-1)) := FR.wE (A := fun b k => b = o + 4 ∧ k = 0) ⟨rfl, rfl⟩
  have e5 : asI g4 (o + 4) (0 : Int32) (-1 : Int32) = some (wE g4 (o + 4) 0 (-1)) := by
    rw [lm1]
    exact asI_ok (i := 0) (z := -1) t4.a4 (by omega) (by omega) (by omega)
  have v5 : hE (wE g4 (o + 4) 0 (-1)) (o + 4) 0 = -1 := by rw [hE_wE (by omega) (by omega) (by omega) (by omega), if_pos ⟨rfl, rfl⟩]
  generalize wE g4 (o + 4) 0 (-1) = g5 at *
  have F35 : FR (fun b k => (b = o + 2 ∨ b = o + 3 ∨ b = o + 4) ∧ k = 0) g2 g5 := ((F3.mono (fun b k q => ⟨Or.inl q.1, q.2⟩)).trans (F4.mono (fun b k q => ⟨Or.inr (Or.inl q.1), q.2⟩))).trans (F5.mono (fun b k q => ⟨Or.inr (Or.inr q.1), q.2⟩))
  refine ⟨g1, g2, g3, g4, g5, e1, t1.r2, a1, e2, t2.r2, e3, t3.r3, e4, t4.r4, e5, (F1.trans F2).trans (F35.mono (fun b k q => Or.inr (Or.inl q))), ⟨by rw [F35.1]; exact t2, wl, ?_, fun k k0 k1 => ?_⟩, ?_, ?_, v5⟩
  · rw [F35.e (by omega), v2]
  · rw [F35.e (by omega), b2 k k0 k1]
  · rw [F5.e (by omega), F4.e (by omega), v3]
  · rw [F5.e (by omega), v4]
def Acl (x b : Nat) : Prop := (x + 1 ≤ b ∧ b ≤ x + 41) ∨ (x + 43 ≤ b ∧ b ≤ x + 65)
theorem SBo.textNo (M : SBo h x o S) (t0 : -2147483648 ≤ t) (t1 : t < 2147483648) (w0 : -2147483648 ≤ w) (w1 : w < 2147483648) (c : pcT S t w = -1) : Sp h x o (m_X11_text x (J t) (J w) h) (m_X12_text o (J t) (J w)) := by
  have pe := M.place t0 t1 w0 w1
  rw [c] at pe
  obtain ⟨m1, m2, m3, m4, m5, m6⟩ := id M
  have tg := m2.tag
  have k1e : pfI h (x + 1) 9 1 (J 0) = some (wE h (x + 1) 1 0) := pfI_ok (k := 1) tg
  have G1 : FR (fun b k => (b = x + 1 ∧ (k = 1 ∨ k = 2)) ∨ (b = x + 1 + 1 ∧ k = 1)) h (wE h (x + 1) 1 0) := FR.wE (A := fun b k => (b = x + 1 ∧ (k = 1 ∨ k = 2)) ∨ (b = x + 1 + 1 ∧ k = 1)) (Or.inl ⟨rfl, Or.inl rfl⟩)
  have u1 : hE (wE h (x + 1) 1 0) (x + 1) 1 = 0 := by rw [hE_wE (by omega) (by omega) (by omega) (by omega), if_pos ⟨rfl, rfl⟩]
  generalize wE h (x + 1) 1 0 = k1 at *
  have k2e : pfI k1 (x + 1) 9 2 (J (-1)) = some (wE k1 (x + 1) 2 (-1)) := pfI_ok (k := 2) (by rw [G1.tag]; exact tg)
  have G2 : FR (fun b k => b = x + 1 ∧ k = 2) k1 (wE k1 (x + 1) 2 (-1)) := FR.wE (A := fun b k => b = x + 1 ∧ k = 2) ⟨rfl, rfl⟩
  have u2 : hE (wE k1 (x + 1) 2 (-1)) (x + 1) 2 = -1 := by rw [hE_wE (by omega) (by omega) (by omega) (by omega), if_pos ⟨rfl, rfl⟩]
  generalize wE k1 (x + 1) 2 (-1) = k2 at *
  have tp2 : hTag k2 (x + 1 + 1) = 10 := by rw [G2.tag, G1.tag]; exact m2.2.1.tag
  have k3e : pfI k2 (x + 1 + 1) 10 1 (J 0) = some (wE k2 (x + 1 + 1) 1 0) := pfI_ok (k := 1) tp2
  have G3 : FR (fun b k => b = x + 1 + 1 ∧ k = 1) k2 (wE k2 (x + 1 + 1) 1 0) := FR.wE (A := fun b k => b = x + 1 + 1 ∧ k = 1) ⟨rfl, rfl⟩
  have u3 : hE (wE k2 (x + 1 + 1) 1 0) (x + 1 + 1) 1 = 0 := by rw [hE_wE (by omega) (by omega) (by omega) (by omega), if_pos ⟨rfl, rfl⟩]
  generalize wE k2 (x + 1 + 1) 1 0 = k3 at *
  have GG := (G1.trans (G2.mono (fun b k q => Or.inl ⟨q.1, Or.inr q.2⟩))).trans (G3.mono (fun b k q => Or.inr q))
  have C3 := m2.reh GG u3 (by rw [G3.e (by omega), G2.e (by omega), u1]) (by rw [G3.e (by omega), u2]) (by omega)
  have R3 := m3.frame GG (fun b k b0 b1 q => by omega)
  obtain ⟨g1, g2, g3, g4, g5, e1, e2, e3, e4, e5, e6, e7, e8, e9, e10, FP, PP, z2, z3, z4⟩ := R3.pre m4
  have R5 := R3.reh FP z2 z3 z4
  have C5 := C3.frame FP (fun b k b0 b1 q => by unfold Awk at q; omega)
  have W5 : SW (sB S, 0, 0, -1, S.2.2.2.2) := m4.reh (by omega) (by omega)
  refine ⟨-2, k3, g5, _, ?_, ?_, (GG.mono (fun b k q => by unfold St A0; omega)).trans (FP.mono (fun b k q => by unfold Awk at q; unfold St A0; omega)), ⟨by rw [FP.1, GG.1]; exact m1, C5, R5, W5, m5, m6⟩, GG.mono (fun b k q => by unfold St; omega)⟩
  · have rx : ∀ {g : Hp}, top g = top h → gfR g x 11 0 = some (x + 1) := fun q => gfR_ok (by show (top _).1 _ = _; rw [q]; exact m1.1) (by show (top _).2.2 _ _ = _; rw [q]; exact m1.2.1)
    have rx1 := rx G1.1
    have rx2 := rx (G2.1.trans G1.1)
    have rt2 : gfR k2 (x + 1) 9 0 = some (x + 1 + 1) := gfR_ok (by rw [G2.tag, G1.tag]; exact tg) (by show (top _).2.2 _ _ = _; rw [G2.1, G1.1]; exact m2.1.2.1.1)
    unfold m_X11_text
    simp (disch := omega) only [M.r0, rc_ok tg, pe, k1e, rx1, k2e, rx2, rt2, k3e, lm1, lm2, lm8, lm2, lm1, l0, l1, l2, l3, l4, l5, l6, l7, l8, l9, l10, l11, l12, l13, l14, l15, l16, l17, l18, l19, l20, l21, l22, l23, l24, l25, l27, l31, l32, l40, l46, l48, l50, l57, l59, l63, l86, l96, l97, l100, l110, l114, l122, l127, l200, l255, l300, l319, l320, l340, l441, l456, l580, l600, l800, l886, l1206, l1526, J_add, J_sub, J_mul, J_neg, J_lt, J_le, J_eq, jT, jF, iT, iF, eT, eF, aT, aF, ite_true, ite_false, ite_not, bs]
  · unfold m_X12_text
    rw [e1, bs, e2, bs, e3, bs, e4, bs, e5, bs, e6, bs, e7, bs, e8, bs, e9, bs, e10, bs]
    rcases pc_no m4 c with q | ⟨q, q2⟩
    · have ei : m_X12_in (J t) (J 0) (J 2) g5 = some (J 0) := X12_in_F (by omega) (by omega) (by omega) (by omega)
      simp (disch := omega) only [ei, lm2, lm8, lm2, lm1, l0, l1, l2, l3, l4, l5, l6, l7, l8, l9, l10, l11, l12, l13, l14, l15, l16, l17, l18, l19, l20, l21, l22, l23, l24, l25, l27, l31, l32, l40, l46, l48, l50, l57, l59, l63, l86, l96, l97, l100, l110, l114, l122, l127, l200, l255, l300, l319, l320, l340, l441, l456, l580, l600, l800, l886, l1206, l1526, J_add, J_sub, J_mul, J_neg, J_lt, J_le, J_eq, jT, jF, iT, iF, eT, eF, aT, aF, ite_true, ite_false, ite_not, bs]
    · have ei : m_X12_in (J t) (J 0) (J 2) g5 = some (J 1) := X12_in_T (by omega) (by omega) (by omega)
      rcases q2 with ⟨q3, q4⟩ | ⟨q3, q4⟩
      · have cm : alI g5 (o + 5) (J t) = some (J (sN S t)) := by
          have := R5.2.2.2.2.2.1 t q.1 q.2
          rw [show 3 * (0 : Int) + t = t by omega] at this
          rw [alI_ok R5.1.a5 q.1 (by omega) (by omega), this]
          rfl
        rw [q4] at cm
        rw [q3]
        simp (disch := omega) only [ei, R5.1.r5, cm, lm1, lm2, lm8, lm2, lm1, l0, l1, l2, l3, l4, l5, l6, l7, l8, l9, l10, l11, l12, l13, l14, l15, l16, l17, l18, l19, l20, l21, l22, l23, l24, l25, l27, l31, l32, l40, l46, l48, l50, l57, l59, l63, l86, l96, l97, l100, l110, l114, l122, l127, l200, l255, l300, l319, l320, l340, l441, l456, l580, l600, l800, l886, l1206, l1526, J_add, J_sub, J_mul, J_neg, J_lt, J_le, J_eq, jT, jF, iT, iF, eT, eF, aT, aF, ite_true, ite_false, ite_not, bs]
      · have is_ := R5.is_ W5 q.1 q.2 w0 w1
        rw [show ndB (sB S, 0, 0, -1, S.2.2.2.2) t w = ndB S t w from rfl, q4] at is_
        have q3' : w < -1 ∨ -1 < w := by omega
        simp (disch := first | omega | assumption) only [ei, rc_ok R5.1.tag, is_, lm1, lm2, bI, bN, cond_false, lm8, lm2, lm1, l0, l1, l2, l3, l4, l5, l6, l7, l8, l9, l10, l11, l12, l13, l14, l15, l16, l17, l18, l19, l20, l21, l22, l23, l24, l25, l27, l31, l32, l40, l46, l48, l50, l57, l59, l63, l86, l96, l97, l100, l110, l114, l122, l127, l200, l255, l300, l319, l320, l340, l441, l456, l580, l600, l800, l886, l1206, l1526, J_add, J_sub, J_mul, J_neg, J_lt, J_le, J_eq, jT, jF, iT, iF, eT, eF, aT, aF, ite_true, ite_false, ite_not, bs]
end TX3
