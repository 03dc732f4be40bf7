/-! PURE PART: what is asked of archives, both sides -/
def TDr (t : Tp) (d : Nat) : Prop := t.1 d = 2 ∧ (t.2.2 d 0 = d + 1 ∧ TA t (d + 1)) ∧ t.2.2 d 1 = d + 11 ∧ TI t (d + 11) 1
/-- the class's shape -/
def TX (t : Tp) (x : Nat) : Prop := t.1 x = 11 ∧ t.2.2 x 0 = x + 1 ∧ (t.2.2 x 1 = x + 42 ∧ t.1 (x + 42) = 27 ∧ t.2.1 (x + 42) = 3) ∧ (t.2.2 x 2 = x + 43 ∧ TRd t (x + 43)) ∧ (t.2.2 x 3 = x + 66 ∧ TH t (x + 66)) ∧ (t.2.2 x 4 = x + 68 ∧ TS8 t (x + 68)) ∧ t.2.2 x 5 = x + 70 ∧ TDr t (x + 70)
/-- both sides show S -/
def SBo (h : Hp) (x o : Nat) (S : Sx) : Prop := TX (top h) x ∧ CS h (x + 1) S ∧ RS h o 0 S ∧ SW S ∧ x + 81 < o ∧ x < 1000
/-- what a question may change -/
def Asc (x o b k : Nat) : Prop := (x + 66 ≤ b ∧ b ≤ x + 81) ∨ b = o ∨ (o + 9 ≤ b ∧ b ≤ o + 15)
def Qy (h : Hp) (x o : Nat) (c : Option Int32) (r : Hp → Option (Int32 × Hp)) : Prop := ∃ v h2, c = some (J v) ∧ r h = some (J v, h2) ∧ FR (Asc x o) h h2
def Qh (h : Hp) (x o : Nat) (c : Option (Int32 × Hp)) (r : Hp → Option (Int32 × Hp)) : Prop := ∃ v h1 h2, c = some (J v, h1) ∧ r h1 = some (J v, h2) ∧ FR (Asc x o) h h2 ∧ FR (Asc x o) h h1
section MQs
variable {h : Hp} {x o : Nat} {S : Sx} {a : Int}
theorem SBo.frame {h' : Hp} (M : SBo h x o S) (F : FR (Asc x o) h h') : SBo h' x o S := by
  obtain ⟨m1, m2, m3, m4, m5, m6⟩ := M
  exact ⟨by rw [F.1]; exact m1, m2.frame F (fun b k b0 b1 q => by unfold Asc at q; omega), m3.frame F (fun b k b0 b1 q => by unfold Asc at q; omega), m4, m5, m6⟩
theorem SBo.tag (M : SBo h x o S) : hTag h x = 11 := M.1.1
theorem SBo.r0 (M : SBo h x o S) : gfR h x 11 0 = some (x + 1) := gfR_ok M.1.1 M.1.2.1
theorem SBo.r3 (M : SBo h x o S) : gfR h x 11 3 = some (x + 66) := gfR_ok M.1.1 M.1.2.2.2.2.1.1
theorem SBo.r4 (M : SBo h x o S) : gfR h x 11 4 = some (x + 68) := gfR_ok M.1.1 M.1.2.2.2.2.2.1.1
theorem SBo.hi (M : SBo h x o S) : TH (top h) (x + 66) := M.1.2.2.2.2.1.2
theorem SBo.se (M : SBo h x o S) : TS8 (top h) (x + 68) := M.1.2.2.2.2.2.1.2
theorem nz_ok {n : Nat} (hn : n < 999999) : nz n = some n := if_pos hn
/-- the class finds the archive -/
theorem SBo.aP (M : SBo h x o S) (a0 : -2147483648 ≤ a) (a1 : a < 2147483648) {α : Type} (N : Option α) (F : Nat → Option α) : ((gfR h x 11 0).bind fun x1 => (rc h x1 9 (m_X9_archiveAt x1 (J a) h)).bind fun x2 => (nz x2).bind fun _ => if ¬ x2 = 0 then F x2 else N) = if ndB S 0 a = true then F (x + 8 + 17 * a.toNat) else N := by
  have n2 := M.2.2.2.1.2.2.1 0 (by omega) (by omega)
  rw [M.r0, bs, rc_ok M.2.1.tag, M.2.1.archiveAt M.2.2.2.1 a0 a1, bs]
  have x6 := M.2.2.2.2.2
  by_cases c : ndB S 0 a = true
  · have q : 0 ≤ a ∧ a < sN S 0 := of_decide_eq_true c
    rw [if_pos c, if_pos c, nz_ok (by omega), bs, if_pos (by omega), show x + 1 + 7 + 17 * a.toNat = x + 8 + 17 * a.toNat by omega]
  · rw [if_neg c, if_neg c, nz_ok (by omega), bs, if_neg (fun q => q rfl)]
theorem SBo.aN (M : SBo h x o S) (a0 : -2147483648 ≤ a) (a1 : a < 2147483648) {α : Type} (N : Option α) (F : Nat → Option α) : ((gfR h x 11 0).bind fun x1 => (rc h x1 9 (m_X9_archiveAt x1 (J a) h)).bind fun x2 => (nz x2).bind fun _ => if x2 = 0 then N else F x2) = if ndB S 0 a = true then F (x + 8 + 17 * a.toNat) else N := by
  have n2 := M.2.2.2.1.2.2.1 0 (by omega) (by omega)
  rw [M.r0, bs, rc_ok M.2.1.tag, M.2.1.archiveAt M.2.2.2.1 a0 a1, bs]
  have x6 := M.2.2.2.2.2
  by_cases c : ndB S 0 a = true
  · have q : 0 ≤ a ∧ a < sN S 0 := of_decide_eq_true c
    rw [if_pos c, if_pos c, nz_ok (by omega), bs, if_neg (by omega), show x + 1 + 7 + 17 * a.toNat = x + 8 + 17 * a.toNat by omega]
  · rw [if_neg c, if_neg c, nz_ok (by omega), bs, if_pos rfl]
theorem SBo.arch (M : SBo h x o S) (c : ndB S 0 a = true) : CA h (x + 8 + 17 * a.toNat) (sT S a) ∧ DA h (x + 8 + 17 * a.toNat) (sT S a) ∧ CW h (x + 8 + 17 * a.toNat) (sT S a) := by
  have n2 := M.2.2.2.1.2.2.1 0 (by omega) (by omega)
  have q : 0 ≤ a ∧ a < sN S 0 := of_decide_eq_true c
  have := (M.2.1.2.2.2.2.2 a.toNat (by omega)).1 (by omega)
  rw [show ((a.toNat : Nat) : Int) = a by omega, show x + 1 + 7 + 17 * a.toNat = x + 8 + 17 * a.toNat by omega] at this
  exact this
theorem SBo.wfA (M : SBo h x o S) (c : ndB S 0 a = true) : AW (sT S a) ∧ DW (sT S a) ∧ sT S a 5 ≤ 279 := by
  have n2 := M.2.2.2.1.2.2.1 0 (by omega) (by omega)
  have q : 0 ≤ a ∧ a < sN S 0 := of_decide_eq_true c
  exact (M.2.2.2.1.2.2.2 a q.1 (by omega)).1 q.2
/-- the reference takes the archive in hand -/
theorem SBo.ref (M : SBo h x o S) (a0 : -2147483648 ≤ a) (a1 : a < 2147483648) : ∃ g, (∀ (F : Int32 × Hp → Option (Int32 × Hp)), ((pfI h o 12 0 (0 : Int32)).bind fun hh1 => (rc hh1 o 12 (m_X12_hand o (J a) hh1)).bind F) = F (J (b01 (ndB S 0 a)), g)) ∧ FR (Asc x o) h g ∧ (ndB S 0 a = true → RM g o (sT S a)) := by
  have T := M.2.2.1.1
  have p1 : pfI h o 12 0 (J 0) = some (wE h o 0 0) := pfI_ok T.tag
  have F1 : FR (Asc x o) h (wE h o 0 0) := FR.wE (A := Asc x o) (Or.inr (Or.inl rfl))
  generalize wE h o 0 0 = g0 at *
  have M0 := M.frame F1
  obtain ⟨g, e, F, R⟩ := M0.2.2.1.hand M0.2.2.2.1 a0 a1
  refine ⟨g, fun G => ?_, F1.trans (F.mono (fun b k q => by unfold AHd at q; unfold Asc; omega)), R⟩
  rw [show (0 : Int32) = J 0 from rfl, p1, bs, rc_ok M0.2.2.1.1.tag, e, bs]
theorem SBo.archive (M : SBo h x o S) {w : Int} (a0 : -2147483648 ≤ a) (a1 : a < 2147483648) (w0 : -2147483648 ≤ w) (w1 : w < 2147483648) : Qy h x o (m_X11_archive x (J a) (J w) h) (m_X12_archive o (J a) (J w)) := by
  obtain ⟨g, e, F, R⟩ := M.ref a0 a1
  unfold Qy m_X11_archive m_X12_archive
  rw [M.aP a0 a1, e]
  by_cases c : ndB S 0 a = true
  · rw [if_pos c, c]
    obtain ⟨C, D, W⟩ := M.arch c
    have RMg := R c
    have A := (M.wfA c).1
    have n0 := A.n0
    have hx := M.hi.1
    generalize x + 8 + 17 * a.toNat = o1 at *
    have Rc := R c
    generalize sT S a = T at *
    by_cases c0 : w = 0
    · refine ⟨T 0, g, ?_, ?_, F⟩
      · rw [c0]
        simp (disch := omega) only [C.f0, lm8, lm2, lm1, l0, l1, l2, l3, l4, l5, l6, l7, l8, l9, l10, l11, l12, l13, l14, l15, l16, l17, l18, l19, l20, l21, l22, l23, l24, l25, l27, l31, l32, l40, l46, l48, l50, l57, l59, l63, l86, l96, l97, l100, l110, l114, l122, l127, l200, l255, l300, l319, l320, l340, l441, l456, l580, l600, l800, l886, l1206, l1526, J_add, J_sub, J_mul, J_neg, J_lt, J_le, J_eq, jT, jF, iT, iF, eT, eF, aT, aF, ite_true, ite_false, ite_not, bs]
      · rw [c0]
        simp (disch := omega) only [RMg.1.r18, RMg.told, bI, bN, cond_true, lm8, lm2, lm1, l0, l1, l2, l3, l4, l5, l6, l7, l8, l9, l10, l11, l12, l13, l14, l15, l16, l17, l18, l19, l20, l21, l22, l23, l24, l25, l27, l31, l32, l40, l46, l48, l50, l57, l59, l63, l86, l96, l97, l100, l110, l114, l122, l127, l200, l255, l300, l319, l320, l340, l441, l456, l580, l600, l800, l886, l1206, l1526, J_add, J_sub, J_mul, J_neg, J_lt, J_le, J_eq, jT, jF, iT, iF, eT, eF, aT, aF, ite_true, ite_false, ite_not, bs]
    · have c0' : w < 0 ∨ 0 < w := by omega
      by_cases c1 : w = 1
      · obtain ⟨v, pv, qv⟩ : ∃ v, m_X0_versionsOfAll o1 h = some (J v) ∧ m_X12_versionsAll o g = some (J v) := ⟨_, C.all, RMg.all⟩
        refine ⟨v, g, ?_, ?_, F⟩
        · rw [c1]
          simp (disch := omega) only [rc_ok C.tag, pv, lm8, lm2, lm1, l0, l1, l2, l3, l4, l5, l6, l7, l8, l9, l10, l11, l12, l13, l14, l15, l16, l17, l18, l19, l20, l21, l22, l23, l24, l25, l27, l31, l32, l40, l46, l48, l50, l57, l59, l63, l86, l96, l97, l100, l110, l114, l122, l127, l200, l255, l300, l319, l320, l340, l441, l456, l580, l600, l800, l886, l1206, l1526, J_add, J_sub, J_mul, J_neg, J_lt, J_le, J_eq, jT, jF, iT, iF, eT, eF, aT, aF, ite_true, ite_false, ite_not, bs]
        · rw [c1]
          simp (disch := omega) only [rc_ok RMg.tag, qv, bI, bN, cond_true, lm8, lm2, lm1, l0, l1, l2, l3, l4, l5, l6, l7, l8, l9, l10, l11, l12, l13, l14, l15, l16, l17, l18, l19, l20, l21, l22, l23, l24, l25, l27, l31, l32, l40, l46, l48, l50, l57, l59, l63, l86, l96, l97, l100, l110, l114, l122, l127, l200, l255, l300, l319, l320, l340, l441, l456, l580, l600, l800, l886, l1206, l1526, J_add, J_sub, J_mul, J_neg, J_lt, J_le, J_eq, jT, jF, iT, iF, eT, eF, aT, aF, ite_true, ite_false, ite_not, bs]
      · have c1' : w < 1 ∨ 1 < w := by omega
        by_cases c2 : w = 2
        · obtain ⟨v, pv, qv⟩ : ∃ v, m_X2_size (x + 66) o1 h = some (J v) ∧ m_X12_sizeAll o g = some (J v) := ⟨_, C.size, RMg.size⟩
          refine ⟨v, g, ?_, ?_, F⟩
          · rw [c2]
            simp (disch := omega) only [M.r3, rc_ok hx, pv, lm8, lm2, lm1, l0, l1, l2, l3, l4, l5, l6, l7, l8, l9, l10, l11, l12, l13, l14, l15, l16, l17, l18, l19, l20, l21, l22, l23, l24, l25, l27, l31, l32, l40, l46, l48, l50, l57, l59, l63, l86, l96, l97, l100, l110, l114, l122, l127, l200, l255, l300, l319, l320, l340, l441, l456, l580, l600, l800, l886, l1206, l1526, J_add, J_sub, J_mul, J_neg, J_lt, J_le, J_eq, jT, jF, iT, iF, eT, eF, aT, aF, ite_true, ite_false, ite_not, bs]
          · rw [c2]
            simp (disch := omega) only [rc_ok RMg.tag, qv, bI, bN, cond_true, lm8, lm2, lm1, l0, l1, l2, l3, l4, l5, l6, l7, l8, l9, l10, l11, l12, l13, l14, l15, l16, l17, l18, l19, l20, l21, l22, l23, l24, l25, l27, l31, l32, l40, l46, l48, l50, l57, l59, l63, l86, l96, l97, l100, l110, l114, l122, l127, l200, l255, l300, l319, l320, l340, l441, l456, l580, l600, l800, l886, l1206, l1526, J_add, J_sub, J_mul, J_neg, J_lt, J_le, J_eq, jT, jF, iT, iF, eT, eF, aT, aF, ite_true, ite_false, ite_not, bs]
        · have c2' : w < 2 ∨ 2 < w := by omega
          by_cases c3 : w = 3
          · refine ⟨T 5, g, ?_, ?_, F⟩
            · rw [c3]
              simp (disch := omega) only [C.f1, lm8, lm2, lm1, l0, l1, l2, l3, l4, l5, l6, l7, l8, l9, l10, l11, l12, l13, l14, l15, l16, l17, l18, l19, l20, l21, l22, l23, l24, l25, l27, l31, l32, l40, l46, l48, l50, l57, l59, l63, l86, l96, l97, l100, l110, l114, l122, l127, l200, l255, l300, l319, l320, l340, l441, l456, l580, l600, l800, l886, l1206, l1526, J_add, J_sub, J_mul, J_neg, J_lt, J_le, J_eq, jT, jF, iT, iF, eT, eF, aT, aF, ite_true, ite_false, ite_not, bs]
            · rw [c3]
              simp (disch := omega) only [RMg.f24, bI, bN, cond_true, lm8, lm2, lm1, l0, l1, l2, l3, l4, l5, l6, l7, l8, l9, l10, l11, l12, l13, l14, l15, l16, l17, l18, l19, l20, l21, l22, l23, l24, l25, l27, l31, l32, l40, l46, l48, l50, l57, l59, l63, l86, l96, l97, l100, l110, l114, l122, l127, l200, l255, l300, l319, l320, l340, l441, l456, l580, l600, l800, l886, l1206, l1526, J_add, J_sub, J_mul, J_neg, J_lt, J_le, J_eq, jT, jF, iT, iF, eT, eF, aT, aF, ite_true, ite_false, ite_not, bs]
          · have c3' : w < 3 ∨ 3 < w := by omega
            by_cases c4 : w = 4
            · obtain ⟨v, pv, qv⟩ : ∃ v, m_X2_postings (x + 66) o1 h = some (J v) ∧ m_X12_postings o g = some (J v) := ⟨_, C.postings, RMg.postings⟩
              refine ⟨v, g, ?_, ?_, F⟩
              · rw [c4]
                simp (disch := omega) only [M.r3, rc_ok hx, pv, lm8, lm2, lm1, l0, l1, l2, l3, l4, l5, l6, l7, l8, l9, l10, l11, l12, l13, l14, l15, l16, l17, l18, l19, l20, l21, l22, l23, l24, l25, l27, l31, l32, l40, l46, l48, l50, l57, l59, l63, l86, l96, l97, l100, l110, l114, l122, l127, l200, l255, l300, l319, l320, l340, l441, l456, l580, l600, l800, l886, l1206, l1526, J_add, J_sub, J_mul, J_neg, J_lt, J_le, J_eq, jT, jF, iT, iF, eT, eF, aT, aF, ite_true, ite_false, ite_not, bs]
              · rw [c4]
                simp (disch := omega) only [rc_ok RMg.tag, qv, bI, bN, cond_true, lm8, lm2, lm1, l0, l1, l2, l3, l4, l5, l6, l7, l8, l9, l10, l11, l12, l13, l14, l15, l16, l17, l18, l19, l20, l21, l22, l23, l24, l25, l27, l31, l32, l40, l46, l48, l50, l57, l59, l63, l86, l96, l97, l100, l110, l114, l122, l127, l200, l255, l300, l319, l320, l340, l441, l456, l580, l600, l800, l886, l1206, l1526, J_add, J_sub, J_mul, J_neg, J_lt, J_le, J_eq, jT, jF, iT, iF, eT, eF, aT, aF, ite_true, ite_false, ite_not, bs]
            · have c4' : w < 4 ∨ 4 < w := by omega
              by_cases c5 : w = 5
              · obtain ⟨v, pv, qv⟩ : ∃ v, m_X2_longestDocument (x + 66) o1 h = some (J v) ∧ m_X12_longest o g = some (J v) := ⟨_, C.longestDoc, RMg.longest⟩
                refine ⟨v, g, ?_, ?_, F⟩
                · rw [c5]
                  simp (disch := omega) only [M.r3, rc_ok hx, pv, lm8, lm2, lm1, l0, l1, l2, l3, l4, l5, l6, l7, l8, l9, l10, l11, l12, l13, l14, l15, l16, l17, l18, l19, l20, l21, l22, l23, l24, l25, l27, l31, l32, l40, l46, l48, l50, l57, l59, l63, l86, l96, l97, l100, l110, l114, l122, l127, l200, l255, l300, l319, l320, l340, l441, l456, l580, l600, l800, l886, l1206, l1526, J_add, J_sub, J_mul, J_neg, J_lt, J_le, J_eq, jT, jF, iT, iF, eT, eF, aT, aF, ite_true, ite_false, ite_not, bs]
                · rw [c5]
                  simp (disch := omega) only [rc_ok RMg.tag, qv, bI, bN, cond_true, lm8, lm2, lm1, l0, l1, l2, l3, l4, l5, l6, l7, l8, l9, l10, l11, l12, l13, l14, l15, l16, l17, l18, l19, l20, l21, l22, l23, l24, l25, l27, l31, l32, l40, l46, l48, l50, l57, l59, l63, l86, l96, l97, l100, l110, l114, l122, l127, l200, l255, l300, l319, l320, l340, l441, l456, l580, l600, l800, l886, l1206, l1526, J_add, J_sub, J_mul, J_neg, J_lt, J_le, J_eq, jT, jF, iT, iF, eT, eF, aT, aF, ite_true, ite_false, ite_not, bs]
              · have c5' : w < 5 ∨ 5 < w := by omega
                by_cases c6 : w = 6
                · obtain ⟨v, pv, qv⟩ : ∃ v, m_X2_twins (x + 66) o1 h = some (J v) ∧ m_X12_twins o g = some (J v) := ⟨_, C.twins hx, RMg.twins⟩
                  refine ⟨v, g, ?_, ?_, F⟩
                  · rw [c6]
                    simp (disch := omega) only [M.r3, rc_ok hx, pv, lm8, lm2, lm1, l0, l1, l2, l3, l4, l5, l6, l7, l8, l9, l10, l11, l12, l13, l14, l15, l16, l17, l18, l19, l20, l21, l22, l23, l24, l25, l27, l31, l32, l40, l46, l48, l50, l57, l59, l63, l86, l96, l97, l100, l110, l114, l122, l127, l200, l255, l300, l319, l320, l340, l441, l456, l580, l600, l800, l886, l1206, l1526, J_add, J_sub, J_mul, J_neg, J_lt, J_le, J_eq, jT, jF, iT, iF, eT, eF, aT, aF, ite_true, ite_false, ite_not, bs]
                  · rw [c6]
                    simp (disch := omega) only [rc_ok RMg.tag, qv, bI, bN, cond_true, lm8, lm2, lm1, l0, l1, l2, l3, l4, l5, l6, l7, l8, l9, l10, l11, l12, l13, l14, l15, l16, l17, l18, l19, l20, l21, l22, l23, l24, l25, l27, l31, l32, l40, l46, l48, l50, l57, l59, l63, l86, l96, l97, l100, l110, l114, l122, l127, l200, l255, l300, l319, l320, l340, l441, l456, l580, l600, l800, l886, l1206, l1526, J_add, J_sub, J_mul, J_neg, J_lt, J_le, J_eq, jT, jF, iT, iF, eT, eF, aT, aF, ite_true, ite_false, ite_not, bs]
                · have c6' : w < 6 ∨ 6 < w := by omega
                  by_cases c7 : w = 7
                  · obtain ⟨g2, e2, F2, W2⟩ := RMg.layWords
                    have f25 : gfI g2 o 12 25 = some (J (wcT T)) := by
                      have tr : hTag g2 o = 12 := by rw [F2.tag]; exact RMg.tag
                      rw [gfI_ok tr]
                      exact congrArg (fun z => some (J z)) W2.1
                    refine ⟨wcT T, g2, ?_, ?_, F.trans (F2.mono (fun b k q => by unfold ALw at q; unfold Asc; omega))⟩
                    · rw [c7]
                      simp (disch := omega) only [C.f2w W, lm8, lm2, lm1, l0, l1, l2, l3, l4, l5, l6, l7, l8, l9, l10, l11, l12, l13, l14, l15, l16, l17, l18, l19, l20, l21, l22, l23, l24, l25, l27, l31, l32, l40, l46, l48, l50, l57, l59, l63, l86, l96, l97, l100, l110, l114, l122, l127, l200, l255, l300, l319, l320, l340, l441, l456, l580, l600, l800, l886, l1206, l1526, J_add, J_sub, J_mul, J_neg, J_lt, J_le, J_eq, jT, jF, iT, iF, eT, eF, aT, aF, ite_true, ite_false, ite_not, bs]
                    · rw [c7]
                      simp (disch := omega) only [rc_ok RMg.tag, e2, f25, bI, bN, cond_true, lm8, lm2, lm1, l0, l1, l2, l3, l4, l5, l6, l7, l8, l9, l10, l11, l12, l13, l14, l15, l16, l17, l18, l19, l20, l21, l22, l23, l24, l25, l27, l31, l32, l40, l46, l48, l50, l57, l59, l63, l86, l96, l97, l100, l110, l114, l122, l127, l200, l255, l300, l319, l320, l340, l441, l456, l580, l600, l800, l886, l1206, l1526, J_add, J_sub, J_mul, J_neg, J_lt, J_le, J_eq, jT, jF, iT, iF, eT, eF, aT, aF, ite_true, ite_false, ite_not, bs]
                  · have c7' : w < 7 ∨ 7 < w := by omega
                    by_cases c10 : w < 10
                    · refine ⟨-2, g, ?_, ?_, F⟩
                      · simp (disch := first | omega | assumption) only [rc_ok M.tag, m_X11_ofDocument, lm2, lm8, lm2, lm1, l0, l1, l2, l3, l4, l5, l6, l7, l8, l9, l10, l11, l12, l13, l14, l15, l16, l17, l18, l19, l20, l21, l22, l23, l24, l25, l27, l31, l32, l40, l46, l48, l50, l57, l59, l63, l86, l96, l97, l100, l110, l114, l122, l127, l200, l255, l300, l319, l320, l340, l441, l456, l580, l600, l800, l886, l1206, l1526, J_add, J_sub, J_mul, J_neg, J_lt, J_le, J_eq, jT, jF, iT, iF, eT, eF, aT, aF, ite_true, ite_false, ite_not, bs]
                      · simp (disch := first | omega | assumption) only [lm2, bI, bN, cond_true, lm8, lm2, lm1, l0, l1, l2, l3, l4, l5, l6, l7, l8, l9, l10, l11, l12, l13, l14, l15, l16, l17, l18, l19, l20, l21, l22, l23, l24, l25, l27, l31, l32, l40, l46, l48, l50, l57, l59, l63, l86, l96, l97, l100, l110, l114, l122, l127, l200, l255, l300, l319, l320, l340, l441, l456, l580, l600, l800, l886, l1206, l1526, J_add, J_sub, J_mul, J_neg, J_lt, J_le, J_eq, jT, jF, iT, iF, eT, eF, aT, aF, ite_true, ite_false, ite_not, bs]
                    · have er : iremF (J w) (J 10) = J (w % 10) := J_rem (by omega) w1 (by omega) (by omega)
                      have ed : J w / J 10 = J (w / 10) := J_div (by omega) w1 (by omega) (by omega)
                      have hcl : ∀ v, m_X11_ofDocument x o1 (J w) h = some (J v) → ((if J w = 0 then ((gfI h o1 1 0).bind fun x3 => some x3) else if J w = 1 then ((rc h o1 1 (m_X0_versionsOfAll o1 h)).bind fun x4 => some x4) else if J w = 2 then ((gfR h x 11 3).bind fun x5 => (rc h x5 3 (m_X2_size x5 o1 h)).bind fun x6 => some x6) else if J w = 3 then ((gfI h o1 1 1).bind fun x7 => some x7) else if J w = 4 then ((gfR h x 11 3).bind fun x8 => (rc h x8 3 (m_X2_postings x8 o1 h)).bind fun x9 => some x9) else if J w = 5 then ((gfR h x 11 3).bind fun x10 => (rc h x10 3 (m_X2_longestDocument x10 o1 h)).bind fun x11 => some x11) else if J w = 6 then ((gfR h x 11 3).bind fun x12 => (rc h x12 3 (m_X2_twins x12 o1 h)).bind fun x13 => some x13) else if J w = 7 then ((gfI h o1 1 2).bind fun x14 => some x14) else (rc h x 11 (m_X11_ofDocument x o1 (J w) h)).bind fun x15 => some x15) : Option Int32) = some (J v) := fun v hv => by
                        simp (disch := first | omega | assumption) only [rc_ok M.tag, hv, lm8, lm2, lm1, l0, l1, l2, l3, l4, l5, l6, l7, l8, l9, l10, l11, l12, l13, l14, l15, l16, l17, l18, l19, l20, l21, l22, l23, l24, l25, l27, l31, l32, l40, l46, l48, l50, l57, l59, l63, l86, l96, l97, l100, l110, l114, l122, l127, l200, l255, l300, l319, l320, l340, l441, l456, l580, l600, l800, l886, l1206, l1526, J_add, J_sub, J_mul, J_neg, J_lt, J_le, J_eq, jT, jF, iT, iF, eT, eF, aT, aF, ite_true, ite_false, ite_not, bs]
                      have hrf : ∀ v, m_X12_ofDoc o (J (w % 10)) (J (w / 10)) g = some (J v) → (if ¬ J (b01 true) = 0 then (if J w < 10 then (if J w = 0 then ((gfR g o 12 18).bind fun x2 => (alI g x2 (0 : Int32)).bind fun x3 => some (x3, g)) else if J w = 1 then ((rc g o 12 (m_X12_versionsAll o g)).bind fun x4 => some (x4, g)) else if J w = 2 then ((rc g o 12 (m_X12_sizeAll o g)).bind fun x5 => some (x5, g)) else if J w = 3 then ((gfI g o 12 24).bind fun x6 => some (x6, g)) else if J w = 4 then ((rc g o 12 (m_X12_postings o g)).bind fun x7 => some (x7, g)) else if J w = 5 then ((rc g o 12 (m_X12_longest o g)).bind fun x8 => some (x8, g)) else if J w = 6 then ((rc g o 12 (m_X12_twins o g)).bind fun x9 => some (x9, g)) else if J w = 7 then ((rc g o 12 (m_X12_layWords o g)).bind fun x10 => (gfI x10 o 12 25).bind fun x11 => some (x11, x10)) else some ((-2 : Int32), g)) else (rc g o 12 (m_X12_ofDoc o (iremF (J w) (10 : Int32)) (J w / (10 : Int32)) g)).bind fun x12 => some (x12, g)) else some ((-2 : Int32), g)) = some (J v, g) := fun v hv => by
                        simp (disch := first | omega | assumption) only [rc_ok RMg.tag, er, ed, hv, bI, bN, cond_true, lm8, lm2, lm1, l0, l1, l2, l3, l4, l5, l6, l7, l8, l9, l10, l11, l12, l13, l14, l15, l16, l17, l18, l19, l20, l21, l22, l23, l24, l25, l27, l31, l32, l40, l46, l48, l50, l57, l59, l63, l86, l96, l97, l100, l110, l114, l122, l127, l200, l255, l300, l319, l320, l340, l441, l456, l580, l600, l800, l886, l1206, l1526, J_add, J_sub, J_mul, J_neg, J_lt, J_le, J_eq, jT, jF, iT, iF, eT, eF, aT, aF, ite_true, ite_false, ite_not, bs]
                      have d0 : 0 ≤ w % 10 ∧ w % 10 < 10 := by omega
                      have e0 : 1 ≤ w / 10 := by omega
                      have eb : w / 10 < 2147483648 := by omega
                      have both : ∃ v, m_X11_ofDocument x o1 (J w) h = some (J v) ∧ m_X12_ofDoc o (J (w % 10)) (J (w / 10)) g = some (J v) := by
                        unfold m_X11_ofDocument
                        rw [show (10 : Int32) = J 10 from rfl, er, ed, if_neg (by rw [J_lt (by omega) (by omega) (by omega) (by omega)]; omega)]
                        generalize w % 10 = d at *
                        generalize w / 10 = e at *
                        by_cases hd : d < T 0
                        · have hv := C.hasDocT (d := d) d0.1 hd
                          have hw := RMg.isDocT (d := d) d0.1 hd
                          by_cases k1 : e = 1
                          · refine ⟨T (1 + d), ?_, ?_⟩
                            · rw [k1]
                              simp (disch := omega) only [rc_ok C.tag, hv, C.versionsOf, lm8, lm2, lm1, l0, l1, l2, l3, l4, l5, l6, l7, l8, l9, l10, l11, l12, l13, l14, l15, l16, l17, l18, l19, l20, l21, l22, l23, l24, l25, l27, l31, l32, l40, l46, l48, l50, l57, l59, l63, l86, l96, l97, l100, l110, l114, l122, l127, l200, l255, l300, l319, l320, l340, l441, l456, l580, l600, l800, l886, l1206, l1526, J_add, J_sub, J_mul, J_neg, J_lt, J_le, J_eq, jT, jF, iT, iF, eT, eF, aT, aF, ite_true, ite_false, ite_not, bs]
                            · rw [k1]
                              simp (disch := omega) only [m_X12_ofDoc, rc_ok RMg.tag, hw, RMg.versions, lm8, lm2, lm1, l0, l1, l2, l3, l4, l5, l6, l7, l8, l9, l10, l11, l12, l13, l14, l15, l16, l17, l18, l19, l20, l21, l22, l23, l24, l25, l27, l31, l32, l40, l46, l48, l50, l57, l59, l63, l86, l96, l97, l100, l110, l114, l122, l127, l200, l255, l300, l319, l320, l340, l441, l456, l580, l600, l800, l886, l1206, l1526, J_add, J_sub, J_mul, J_neg, J_lt, J_le, J_eq, jT, jF, iT, iF, eT, eF, aT, aF, ite_true, ite_false, ite_not, bs]
                          · have k1' : e < 1 ∨ 1 < e := by omega
                            by_cases k2 : e = 2
                            · obtain ⟨v, p1, p2⟩ : ∃ v, m_X2_passages (x + 66) o1 (J d) (J 0) h = some (J v) ∧ m_X12_passages o (J d) (J 0) g = some (J v) := ⟨_, C.passages (x := x + 66) hx d0.1 hd (b := false), RMg.passages d0.1 hd (b := false)⟩
                              refine ⟨v, ?_, ?_⟩
                              · rw [k2]
                                simp (disch := omega) only [rc_ok C.tag, hv, M.r3, rc_ok hx, p1, lm8, lm2, lm1, l0, l1, l2, l3, l4, l5, l6, l7, l8, l9, l10, l11, l12, l13, l14, l15, l16, l17, l18, l19, l20, l21, l22, l23, l24, l25, l27, l31, l32, l40, l46, l48, l50, l57, l59, l63, l86, l96, l97, l100, l110, l114, l122, l127, l200, l255, l300, l319, l320, l340, l441, l456, l580, l600, l800, l886, l1206, l1526, J_add, J_sub, J_mul, J_neg, J_lt, J_le, J_eq, jT, jF, iT, iF, eT, eF, aT, aF, ite_true, ite_false, ite_not, bs]
                              · rw [k2]
                                simp (disch := omega) only [m_X12_ofDoc, j_X12_ofDoc_54, j_X12_ofDoc_66, rc_ok RMg.tag, hw, p2, lm8, lm2, lm1, l0, l1, l2, l3, l4, l5, l6, l7, l8, l9, l10, l11, l12, l13, l14, l15, l16, l17, l18, l19, l20, l21, l22, l23, l24, l25, l27, l31, l32, l40, l46, l48, l50, l57, l59, l63, l86, l96, l97, l100, l110, l114, l122, l127, l200, l255, l300, l319, l320, l340, l441, l456, l580, l600, l800, l886, l1206, l1526, J_add, J_sub, J_mul, J_neg, J_lt, J_le, J_eq, jT, jF, iT, iF, eT, eF, aT, aF, ite_true, ite_false, ite_not, bs]
                            · have k2' : e < 2 ∨ 2 < e := by omega
                              by_cases k3 : e = 3
                              · obtain ⟨v, p1, p2⟩ : ∃ v, m_X2_passages (x + 66) o1 (J d) (J 1) h = some (J v) ∧ m_X12_passages o (J d) (J 1) g = some (J v) := ⟨_, C.passages (x := x + 66) hx d0.1 hd (b := true), RMg.passages d0.1 hd (b := true)⟩
                                refine ⟨v, ?_, ?_⟩
                                · rw [k3]
                                  simp (disch := omega) only [rc_ok C.tag, hv, M.r3, rc_ok hx, p1, lm8, lm2, lm1, l0, l1, l2, l3, l4, l5, l6, l7, l8, l9, l10, l11, l12, l13, l14, l15, l16, l17, l18, l19, l20, l21, l22, l23, l24, l25, l27, l31, l32, l40, l46, l48, l50, l57, l59, l63, l86, l96, l97, l100, l110, l114, l122, l127, l200, l255, l300, l319, l320, l340, l441, l456, l580, l600, l800, l886, l1206, l1526, J_add, J_sub, J_mul, J_neg, J_lt, J_le, J_eq, jT, jF, iT, iF, eT, eF, aT, aF, ite_true, ite_false, ite_not, bs]
                                · rw [k3]
                                  simp (disch := omega) only [m_X12_ofDoc, j_X12_ofDoc_54, j_X12_ofDoc_66, rc_ok RMg.tag, hw, p2, lm8, lm2, lm1, l0, l1, l2, l3, l4, l5, l6, l7, l8, l9, l10, l11, l12, l13, l14, l15, l16, l17, l18, l19, l20, l21, l22, l23, l24, l25, l27, l31, l32, l40, l46, l48, l50, l57, l59, l63, l86, l96, l97, l100, l110, l114, l122, l127, l200, l255, l300, l319, l320, l340, l441, l456, l580, l600, l800, l886, l1206, l1526, J_add, J_sub, J_mul, J_neg, J_lt, J_le, J_eq, jT, jF, iT, iF, eT, eF, aT, aF, ite_true, ite_false, ite_not, bs]
                              · have k3' : e < 3 ∨ 3 < e := by omega
                                by_cases k4 : e = 4
                                · refine ⟨keT T d, ?_, ?_⟩
                                  · rw [k4]
                                    simp (disch := omega) only [rc_ok C.tag, hv, M.r3, rc_ok hx, C.kept, lm8, lm2, lm1, l0, l1, l2, l3, l4, l5, l6, l7, l8, l9, l10, l11, l12, l13, l14, l15, l16, l17, l18, l19, l20, l21, l22, l23, l24, l25, l27, l31, l32, l40, l46, l48, l50, l57, l59, l63, l86, l96, l97, l100, l110, l114, l122, l127, l200, l255, l300, l319, l320, l340, l441, l456, l580, l600, l800, l886, l1206, l1526, J_add, J_sub, J_mul, J_neg, J_lt, J_le, J_eq, jT, jF, iT, iF, eT, eF, aT, aF, ite_true, ite_false, ite_not, bs]
                                  · rw [k4]
                                    simp (disch := omega) only [m_X12_ofDoc, rc_ok RMg.tag, hw, RMg.keptIn, lm8, lm2, lm1, l0, l1, l2, l3, l4, l5, l6, l7, l8, l9, l10, l11, l12, l13, l14, l15, l16, l17, l18, l19, l20, l21, l22, l23, l24, l25, l27, l31, l32, l40, l46, l48, l50, l57, l59, l63, l86, l96, l97, l100, l110, l114, l122, l127, l200, l255, l300, l319, l320, l340, l441, l456, l580, l600, l800, l886, l1206, l1526, J_add, J_sub, J_mul, J_neg, J_lt, J_le, J_eq, jT, jF, iT, iF, eT, eF, aT, aF, ite_true, ite_false, ite_not, bs]
                                · have k4' : e < 4 ∨ 4 < e := by omega
                                  by_cases k5 : e = 5
                                  · obtain ⟨v, pv, qv⟩ : ∃ v, m_X2_returns (x + 66) o1 (J d) h = some (J v) ∧ m_X12_returns o (J d) g = some (J v) := ⟨_, C.returns hx d0.1 hd, RMg.returns d0.1 hd⟩
                                    refine ⟨v, ?_, ?_⟩
                                    · rw [k5]
                                      simp (disch := omega) only [rc_ok C.tag, hv, M.r3, rc_ok hx, pv, lm8, lm2, lm1, l0, l1, l2, l3, l4, l5, l6, l7, l8, l9, l10, l11, l12, l13, l14, l15, l16, l17, l18, l19, l20, l21, l22, l23, l24, l25, l27, l31, l32, l40, l46, l48, l50, l57, l59, l63, l86, l96, l97, l100, l110, l114, l122, l127, l200, l255, l300, l319, l320, l340, l441, l456, l580, l600, l800, l886, l1206, l1526, J_add, J_sub, J_mul, J_neg, J_lt, J_le, J_eq, jT, jF, iT, iF, eT, eF, aT, aF, ite_true, ite_false, ite_not, bs]
                                    · rw [k5]
                                      simp (disch := omega) only [m_X12_ofDoc, rc_ok RMg.tag, hw, qv, lm8, lm2, lm1, l0, l1, l2, l3, l4, l5, l6, l7, l8, l9, l10, l11, l12, l13, l14, l15, l16, l17, l18, l19, l20, l21, l22, l23, l24, l25, l27, l31, l32, l40, l46, l48, l50, l57, l59, l63, l86, l96, l97, l100, l110, l114, l122, l127, l200, l255, l300, l319, l320, l340, l441, l456, l580, l600, l800, l886, l1206, l1526, J_add, J_sub, J_mul, J_neg, J_lt, J_le, J_eq, jT, jF, iT, iF, eT, eF, aT, aF, ite_true, ite_false, ite_not, bs]
                                  · have k5' : e < 5 ∨ 5 < e := by omega
                                    refine ⟨-2, ?_, ?_⟩
                                    · simp (disch := first | omega | assumption) only [rc_ok C.tag, hv, lm2, lm8, lm2, lm1, l0, l1, l2, l3, l4, l5, l6, l7, l8, l9, l10, l11, l12, l13, l14, l15, l16, l17, l18, l19, l20, l21, l22, l23, l24, l25, l27, l31, l32, l40, l46, l48, l50, l57, l59, l63, l86, l96, l97, l100, l110, l114, l122, l127, l200, l255, l300, l319, l320, l340, l441, l456, l580, l600, l800, l886, l1206, l1526, J_add, J_sub, J_mul, J_neg, J_lt, J_le, J_eq, jT, jF, iT, iF, eT, eF, aT, aF, ite_true, ite_false, ite_not, bs]
                                    · simp (disch := first | omega | assumption) only [m_X12_ofDoc, rc_ok RMg.tag, hw, lm2, lm8, lm2, lm1, l0, l1, l2, l3, l4, l5, l6, l7, l8, l9, l10, l11, l12, l13, l14, l15, l16, l17, l18, l19, l20, l21, l22, l23, l24, l25, l27, l31, l32, l40, l46, l48, l50, l57, l59, l63, l86, l96, l97, l100, l110, l114, l122, l127, l200, l255, l300, l319, l320, l340, l441, l456, l580, l600, l800, l886, l1206, l1526, J_add, J_sub, J_mul, J_neg, J_lt, J_le, J_eq, jT, jF, iT, iF, eT, eF, aT, aF, ite_true, ite_false, ite_not, bs]
                        · have hv := C.hasDocF (d := d) (by omega) (by omega) (by omega)
                          have hw := RMg.isDocF (d := d) (by omega) (by omega) (by omega)
                          refine ⟨-2, ?_, ?_⟩
                          · simp (disch := omega) only [rc_ok C.tag, hv, lm2, lm8, lm2, lm1, l0, l1, l2, l3, l4, l5, l6, l7, l8, l9, l10, l11, l12, l13, l14, l15, l16, l17, l18, l19, l20, l21, l22, l23, l24, l25, l27, l31, l32, l40, l46, l48, l50, l57, l59, l63, l86, l96, l97, l100, l110, l114, l122, l127, l200, l255, l300, l319, l320, l340, l441, l456, l580, l600, l800, l886, l1206, l1526, J_add, J_sub, J_mul, J_neg, J_lt, J_le, J_eq, jT, jF, iT, iF, eT, eF, aT, aF, ite_true, ite_false, ite_not, bs]
                          · simp (disch := omega) only [m_X12_ofDoc, rc_ok RMg.tag, hw, lm2, lm8, lm2, lm1, l0, l1, l2, l3, l4, l5, l6, l7, l8, l9, l10, l11, l12, l13, l14, l15, l16, l17, l18, l19, l20, l21, l22, l23, l24, l25, l27, l31, l32, l40, l46, l48, l50, l57, l59, l63, l86, l96, l97, l100, l110, l114, l122, l127, l200, l255, l300, l319, l320, l340, l441, l456, l580, l600, l800, l886, l1206, l1526, J_add, J_sub, J_mul, J_neg, J_lt, J_le, J_eq, jT, jF, iT, iF, eT, eF, aT, aF, ite_true, ite_false, ite_not, bs]
                      obtain ⟨v, v1, v2⟩ := both
                      exact ⟨v, g, hcl v v1, hrf v v2, F⟩
  · have c' : ndB S 0 a = false := by simpa using c
    rw [if_neg c, c']
    exact ⟨-2, g, rfl, if_neg (fun q => q rfl), F⟩
end MQs
