/-! PURE PART: the class's next token -/
section TA2
variable {h : Hp} {a : Nat} {B : Int → Int} {L : Int}
theorem CT.digits (H : CT h a B L) {i : Int} (hi : hE h a 4 = i) (i0 : 0 ≤ i) (i1 : i ≤ L) (K : Hp → Option Hp) : ∃ h', l_X10_next_144 a K h = K h' ∧ FR (Afl a 4) h h' ∧ hE h' a 4 = adv (fun k => diB (B k)) L i := by
  have hL := H.2.1
  obtain ⟨s1, s2, s3, s4⟩ := adv_spec (fun k => diB (B k)) i1
  generalize hn : adv (fun k => diB (B k)) L i = n at *
  obtain ⟨h1, ⟨F1, e1⟩, el⟩ := loop_ex (body := fun (k : Hp → Option Hp) (s : Hp) => b_X10_next_144 a K (fun hq => k hq) s) (s := h) (fun j s => FR (Afl a 4) h s ∧ hE s a 4 = i + j) (fun s => K s) (n - i) (by omega) (by have := hL.2.1; omega) ⟨FR.refl _ _, by rw [hi, Int.add_zero]⟩ (by
    rintro k j s j0 j1 ⟨F, e⟩
    have H' := H.frl F (by omega)
    have hL2 := hL.2.1
    have hB := hL.2.2 (i + j) (by omega) (by omega)
    have hP := s3 (i + j) (by omega) (by omega)
    have e3 : gfI s a 10 4 = some (J (i + j)) := by rw [H'.fI]; exact congrArg (fun z => some (J z)) e
    have ep : pfI s a 10 4 (J (i + j + 1)) = some (wE s a 4 (i + j + 1)) := pfI_ok H'.tag
    refine ⟨wE s a 4 (i + j + 1), ⟨F.trans (frL (f := 4)), ?_⟩, ?_⟩
    · rw [hE_wE (by omega) (by omega) (by omega) (by omega), if_pos ⟨rfl, rfl⟩]
      omega
    · show b_X10_next_144 a K (fun hq => k hq) s = _
      have := hL.2.1
      simp (disch := omega) only [b_X10_next_144, e3, H'.f1, rc_ok H'.tag, H'.byteAt, X10_isDigit_ok, hP, bI, cond_true, ep, lm8, lm2, lm1, l0, l1, l2, l3, l4, l5, l6, l7, l8, l9, l10, l11, l12, l13, l14, l15, l16, l17, l18, l19, l20, l21, l22, l23, l24, l25, l27, l31, l32, l40, l46, l48, l50, l57, l59, l63, l86, l96, l97, l100, l110, l114, l122, l127, l200, l255, l300, l319, l320, l340, l441, l456, l580, l600, l800, l886, l1206, l1526, J_add, J_sub, J_mul, J_neg, J_lt, J_le, J_eq, jT, jF, iT, iF, eT, eF, aT, aF, ite_true, ite_false, ite_not, bs]) (by
    rintro k s ⟨F, e⟩
    have H' := H.frl F (by omega)
    have e3 : gfI s a 10 4 = some (J n) := by rw [H'.fI]; exact congrArg (fun z => some (J z)) (by show hE s a 4 = n; omega)
    show b_X10_next_144 a K (fun hq => k hq) s = _
    have := hL.2.1
    by_cases c : n < L
    · have hB := hL.2.2 n (by omega) (by omega)
      have hP := s4 c
      simp (disch := omega) only [b_X10_next_144, e3, H'.f1, rc_ok H'.tag, H'.byteAt, X10_isDigit_ok, hP, bI, cond_false, lm8, lm2, lm1, l0, l1, l2, l3, l4, l5, l6, l7, l8, l9, l10, l11, l12, l13, l14, l15, l16, l17, l18, l19, l20, l21, l22, l23, l24, l25, l27, l31, l32, l40, l46, l48, l50, l57, l59, l63, l86, l96, l97, l100, l110, l114, l122, l127, l200, l255, l300, l319, l320, l340, l441, l456, l580, l600, l800, l886, l1206, l1526, J_add, J_sub, J_mul, J_neg, J_lt, J_le, J_eq, jT, jF, iT, iF, eT, eF, aT, aF, ite_true, ite_false, ite_not, bs]
    · simp (disch := omega) only [b_X10_next_144, e3, H'.f1, lm8, lm2, lm1, l0, l1, l2, l3, l4, l5, l6, l7, l8, l9, l10, l11, l12, l13, l14, l15, l16, l17, l18, l19, l20, l21, l22, l23, l24, l25, l27, l31, l32, l40, l46, l48, l50, l57, l59, l63, l86, l96, l97, l100, l110, l114, l122, l127, l200, l255, l300, l319, l320, l340, l441, l456, l580, l600, l800, l886, l1206, l1526, J_add, J_sub, J_mul, J_neg, J_lt, J_le, J_eq, jT, jF, iT, iF, eT, eF, aT, aF, ite_true, ite_false, ite_not, bs])
  exact ⟨h1, el, F1, by rw [e1]; omega⟩
theorem CT.letters (H : CT h a B L) {i : Int} (hi : hE h a 4 = i) (i0 : 0 ≤ i) (i1 : i ≤ L) : ∃ h', l_X10_next_92 a h = some h' ∧ FR (Afl a 4) h h' ∧ hE h' a 4 = adv (fun k => leB (B k)) L i := by
  have hL := H.2.1
  obtain ⟨s1, s2, s3, s4⟩ := adv_spec (fun k => leB (B k)) i1
  generalize hn : adv (fun k => leB (B k)) L i = n at *
  obtain ⟨h1, ⟨F1, e1⟩, el⟩ := loop_ex (body := fun (k : Hp → Option Hp) (s : Hp) => b_X10_next_92 a (fun hq => k hq) s) (s := h) (fun j s => FR (Afl a 4) h s ∧ hE s a 4 = i + j) (fun s => some s) (n - i) (by omega) (by have := hL.2.1; omega) ⟨FR.refl _ _, by rw [hi, Int.add_zero]⟩ (by
    rintro k j s j0 j1 ⟨F, e⟩
    have H' := H.frl F (by omega)
    have hL2 := hL.2.1
    have hB := hL.2.2 (i + j) (by omega) (by omega)
    have hP := s3 (i + j) (by omega) (by omega)
    have e3 : gfI s a 10 4 = some (J (i + j)) := by rw [H'.fI]; exact congrArg (fun z => some (J z)) e
    have ep : pfI s a 10 4 (J (i + j + 1)) = some (wE s a 4 (i + j + 1)) := pfI_ok H'.tag
    refine ⟨wE s a 4 (i + j + 1), ⟨F.trans (frL (f := 4)), ?_⟩, ?_⟩
    · rw [hE_wE (by omega) (by omega) (by omega) (by omega), if_pos ⟨rfl, rfl⟩]
      omega
    · show b_X10_next_92 a (fun hq => k hq) s = _
      have := hL.2.1
      simp (disch := omega) only [b_X10_next_92, e3, H'.f1, rc_ok H'.tag, H'.byteAt, X10_isLetter_ok, hP, bI, cond_true, ep, lm8, lm2, lm1, l0, l1, l2, l3, l4, l5, l6, l7, l8, l9, l10, l11, l12, l13, l14, l15, l16, l17, l18, l19, l20, l21, l22, l23, l24, l25, l27, l31, l32, l40, l46, l48, l50, l57, l59, l63, l86, l96, l97, l100, l110, l114, l122, l127, l200, l255, l300, l319, l320, l340, l441, l456, l580, l600, l800, l886, l1206, l1526, J_add, J_sub, J_mul, J_neg, J_lt, J_le, J_eq, jT, jF, iT, iF, eT, eF, aT, aF, ite_true, ite_false, ite_not, bs]) (by
    rintro k s ⟨F, e⟩
    have H' := H.frl F (by omega)
    have e3 : gfI s a 10 4 = some (J n) := by rw [H'.fI]; exact congrArg (fun z => some (J z)) (by show hE s a 4 = n; omega)
    show b_X10_next_92 a (fun hq => k hq) s = _
    have := hL.2.1
    by_cases c : n < L
    · have hB := hL.2.2 n (by omega) (by omega)
      have hP := s4 c
      simp (disch := omega) only [b_X10_next_92, e3, H'.f1, rc_ok H'.tag, H'.byteAt, X10_isLetter_ok, hP, bI, cond_false, lm8, lm2, lm1, l0, l1, l2, l3, l4, l5, l6, l7, l8, l9, l10, l11, l12, l13, l14, l15, l16, l17, l18, l19, l20, l21, l22, l23, l24, l25, l27, l31, l32, l40, l46, l48, l50, l57, l59, l63, l86, l96, l97, l100, l110, l114, l122, l127, l200, l255, l300, l319, l320, l340, l441, l456, l580, l600, l800, l886, l1206, l1526, J_add, J_sub, J_mul, J_neg, J_lt, J_le, J_eq, jT, jF, iT, iF, eT, eF, aT, aF, ite_true, ite_false, ite_not, bs]
    · simp (disch := omega) only [b_X10_next_92, e3, H'.f1, lm8, lm2, lm1, l0, l1, l2, l3, l4, l5, l6, l7, l8, l9, l10, l11, l12, l13, l14, l15, l16, l17, l18, l19, l20, l21, l22, l23, l24, l25, l27, l31, l32, l40, l46, l48, l50, l57, l59, l63, l86, l96, l97, l100, l110, l114, l122, l127, l200, l255, l300, l319, l320, l340, l441, l456, l580, l600, l800, l886, l1206, l1526, J_add, J_sub, J_mul, J_neg, J_lt, J_le, J_eq, jT, jF, iT, iF, eT, eF, aT, aF, ite_true, ite_false, ite_not, bs])
  exact ⟨h1, el, F1, by rw [e1]; omega⟩
theorem CT.next (H : CT h a B L) {i : Int} (hi : hE h a 4 = i) (i0 : 0 ≤ i) (i1 : i ≤ L) : ∃ h', m_X10_next a h = some h' ∧ FR (ATk a) h h' ∧ hE h' a 2 = ckF B L (frF B L i) ∧ hE h' a 3 = frF B L i ∧ hE h' a 4 = toF B L (frF B L i) := by
  have hL := H.2.1
  have hL2 := hL.2.1
  obtain ⟨s1, s2, -, -⟩ := adv_spec (fun k => blB (B k)) i1
  have e4 : gfI h a 10 4 = some (J i) := by rw [H.fI]; exact congrArg (fun z => some (J z)) hi
  have p3 : pfI h a 10 3 (J i) = some (wE h a 3 i) := pfI_ok H.tag
  have F0 : FR (Afl a 3) h (wE h a 3 i) := frL (f := 3)
  have H0 := H.frl F0 (by omega)
  obtain ⟨g1, k1, G1, f1⟩ := H0.skip (i := i) (by rw [hE_wE (by omega) (by omega) (by omega) (by omega), if_pos ⟨rfl, rfl⟩]) i0 i1 (fun hz2 => j_X10_next_46 a hz2)
  have H1 := H0.frl G1 (by omega)
  have em : m_X10_next a h = j_X10_next_46 a g1 := by
    simp (disch := omega) only [m_X10_next, e4, p3, lm8, lm2, lm1, l0, l1, l2, l3, l4, l5, l6, l7, l8, l9, l10, l11, l12, l13, l14, l15, l16, l17, l18, l19, l20, l21, l22, l23, l24, l25, l27, l31, l32, l40, l46, l48, l50, l57, l59, l63, l86, l96, l97, l100, l110, l114, l122, l127, l200, l255, l300, l319, l320, l340, l441, l456, l580, l600, l800, l886, l1206, l1526, J_add, J_sub, J_mul, J_neg, J_lt, J_le, J_eq, jT, jF, iT, iF, eT, eF, aT, aF, ite_true, ite_false, ite_not, bs]
    exact k1
  rw [em]
  have F1 : FR (ATk a) h g1 := (F0.mono (fun b k q => Afl_k (Or.inr (Or.inl rfl)) q)).trans (G1.mono (fun b k q => Afl_k (Or.inr (Or.inl rfl)) q))
  have hfr : i ≤ frF B L i ∧ frF B L i ≤ L := ⟨s1, s2⟩
  generalize frF B L i = f at *
  have e3 : gfI g1 a 10 3 = some (J f) := by rw [H1.fI]; exact congrArg (fun z => some (J z)) f1
  have p4 : pfI g1 a 10 4 (J f) = some (wE g1 a 4 f) := pfI_ok H1.tag
  have F2 : FR (Afl a 4) g1 (wE g1 a 4 f) := frL (f := 4)
  have H2 := H1.frl F2 (by omega)
  have c3 : hE (wE g1 a 4 f) a 3 = f := by rw [hE_wE (by omega) (by omega) (by omega) (by omega), if_neg (by omega), f1]
  have c4 : hE (wE g1 a 4 f) a 4 = f := by rw [hE_wE (by omega) (by omega) (by omega) (by omega), if_pos ⟨rfl, rfl⟩]
  have F02 : FR (ATk a) h (wE g1 a 4 f) := F1.trans (F2.mono (fun b k q => Afl_k (Or.inr (Or.inr rfl)) q))
  generalize hg2 : wE g1 a 4 f = g2 at *
  have e5 : gfI g2 a 10 3 = some (J f) := by rw [H2.fI]; exact congrArg (fun z => some (J z)) c3
  have e6 : gfI g2 a 10 4 = some (J f) := by rw [H2.fI]; exact congrArg (fun z => some (J z)) c4
  have p2 : ∀ y : Int, pfI g2 a 10 2 (J y) = some (wE g2 a 2 y) := fun y => pfI_ok H2.tag
  have F3 : ∀ y : Int, FR (Afl a 2) g2 (wE g2 a 2 y) := fun y => frL (f := 2)
  unfold ckF toF
  by_cases cL : L ≤ f
  · refine ⟨wE g2 a 2 0, ?_, F02.trans ((F3 0).mono (fun b k q => Afl_k (Or.inl rfl) q)), ?_, ?_, ?_⟩
    · simp (disch := omega) only [j_X10_next_46, e3, p4, e5, H2.f1, p2, lm8, lm2, lm1, l0, l1, l2, l3, l4, l5, l6, l7, l8, l9, l10, l11, l12, l13, l14, l15, l16, l17, l18, l19, l20, l21, l22, l23, l24, l25, l27, l31, l32, l40, l46, l48, l50, l57, l59, l63, l86, l96, l97, l100, l110, l114, l122, l127, l200, l255, l300, l319, l320, l340, l441, l456, l580, l600, l800, l886, l1206, l1526, J_add, J_sub, J_mul, J_neg, J_lt, J_le, J_eq, jT, jF, iT, iF, eT, eF, aT, aF, ite_true, ite_false, ite_not, bs]
    · rw [hE_wE (by omega) (by omega) (by omega) (by omega), if_pos ⟨rfl, rfl⟩, if_pos cL]
    · rw [hE_wE (by omega) (by omega) (by omega) (by omega), if_neg (by omega), c3]
    · rw [hE_wE (by omega) (by omega) (by omega) (by omega), if_neg (by omega), c4, if_pos cL]
  · have hB := hL.2.2 f (by omega) (by omega)
    simp only [if_neg cL]
    by_cases cl : leB (B f) = true
    · have H3 := H2.frl (F3 1) (by omega)
      obtain ⟨g3, k3, G3, f3⟩ := H3.letters (i := f) (by rw [hE_wE (by omega) (by omega) (by omega) (by omega), if_neg (by omega), c4]) (by omega) hfr.2
      refine ⟨g3, ?_, (F02.trans ((F3 1).mono (fun b k q => Afl_k (Or.inl rfl) q))).trans (G3.mono (fun b k q => Afl_k (Or.inr (Or.inr rfl)) q)), ?_, ?_, ?_⟩
      · simp (disch := omega) only [j_X10_next_46, e3, p4, e5, H2.f1, p2, rc_ok H2.tag, H2.byteAt, X10_isLetter_ok, cl, bI, cond_true, k3, lm8, lm2, lm1, l0, l1, l2, l3, l4, l5, l6, l7, l8, l9, l10, l11, l12, l13, l14, l15, l16, l17, l18, l19, l20, l21, l22, l23, l24, l25, l27, l31, l32, l40, l46, l48, l50, l57, l59, l63, l86, l96, l97, l100, l110, l114, l122, l127, l200, l255, l300, l319, l320, l340, l441, l456, l580, l600, l800, l886, l1206, l1526, J_add, J_sub, J_mul, J_neg, J_lt, J_le, J_eq, jT, jF, iT, iF, eT, eF, aT, aF, ite_true, ite_false, ite_not, bs]
      · rw [if_pos cl, G3.e (by unfold Afl; omega), hE_wE (by omega) (by omega) (by omega) (by omega), if_pos ⟨rfl, rfl⟩]
      · rw [G3.e (by unfold Afl; omega), hE_wE (by omega) (by omega) (by omega) (by omega), if_neg (by omega), c3]
      · rw [if_pos cl, f3]
    · have cl' : leB (B f) = false := by simpa using cl
      simp only [if_neg cl]
      by_cases cd : diB (B f) = true
      · obtain ⟨s5, s6, -, -⟩ := adv_spec (fun k => diB (B k)) hfr.2
        obtain ⟨g3, k3, G3, f3⟩ := H2.digits (i := f) c4 (by omega) hfr.2 (fun hz12 => j_X10_next_182 a hz12)
        have H3 := H2.frl G3 (by omega)
        simp only [if_pos cd]
        generalize adv (fun k => diB (B k)) L f = n at *
        have e7 : gfI g3 a 10 3 = some (J f) := by rw [H3.fI]; exact congrArg (fun z => some (J z)) (by rw [← c3]; exact G3.e (by unfold Afl; omega))
        have e8 : gfI g3 a 10 4 = some (J n) := by rw [H3.fI]; exact congrArg (fun z => some (J z)) f3
        have p5 : ∀ y : Int, pfI g3 a 10 2 (J y) = some (wE g3 a 2 y) := fun y => pfI_ok H3.tag
        have F4 : ∀ y : Int, FR (Afl a 2) g3 (wE g3 a 2 y) := fun y => frL (f := 2)
        refine ⟨wE g3 a 2 (if 2 < n - f then 4 else 2), ?_, (F02.trans (G3.mono (fun b k q => Afl_k (Or.inr (Or.inr rfl)) q))).trans ((F4 _).mono (fun b k q => Afl_k (Or.inl rfl) q)), ?_, ?_, ?_⟩
        · simp (disch := omega) only [j_X10_next_46, e3, p4, e5, H2.f1, p2, rc_ok H2.tag, H2.byteAt, X10_isLetter_ok, X10_isDigit_ok, cl', cd, bI, cond_true, cond_false, k3, lm8, lm2, lm1, l0, l1, l2, l3, l4, l5, l6, l7, l8, l9, l10, l11, l12, l13, l14, l15, l16, l17, l18, l19, l20, l21, l22, l23, l24, l25, l27, l31, l32, l40, l46, l48, l50, l57, l59, l63, l86, l96, l97, l100, l110, l114, l122, l127, l200, l255, l300, l319, l320, l340, l441, l456, l580, l600, l800, l886, l1206, l1526, J_add, J_sub, J_mul, J_neg, J_lt, J_le, J_eq, jT, jF, iT, iF, eT, eF, aT, aF, ite_true, ite_false, ite_not, bs]
          by_cases c2 : 2 < n - f
          · simp (disch := omega) only [j_X10_next_182, j_X10_next_201, e7, e8, p5, lm8, lm2, lm1, l0, l1, l2, l3, l4, l5, l6, l7, l8, l9, l10, l11, l12, l13, l14, l15, l16, l17, l18, l19, l20, l21, l22, l23, l24, l25, l27, l31, l32, l40, l46, l48, l50, l57, l59, l63, l86, l96, l97, l100, l110, l114, l122, l127, l200, l255, l300, l319, l320, l340, l441, l456, l580, l600, l800, l886, l1206, l1526, J_add, J_sub, J_mul, J_neg, J_lt, J_le, J_eq, jT, jF, iT, iF, eT, eF, aT, aF, ite_true, ite_false, ite_not, bs]
          · simp (disch := omega) only [j_X10_next_182, j_X10_next_201, e7, e8, p5, lm8, lm2, lm1, l0, l1, l2, l3, l4, l5, l6, l7, l8, l9, l10, l11, l12, l13, l14, l15, l16, l17, l18, l19, l20, l21, l22, l23, l24, l25, l27, l31, l32, l40, l46, l48, l50, l57, l59, l63, l86, l96, l97, l100, l110, l114, l122, l127, l200, l255, l300, l319, l320, l340, l441, l456, l580, l600, l800, l886, l1206, l1526, J_add, J_sub, J_mul, J_neg, J_lt, J_le, J_eq, jT, jF, iT, iF, eT, eF, aT, aF, ite_true, ite_false, ite_not, bs]
        · rw [hE_wE (by omega) (by omega) (by split <;> omega) (by split <;> omega), if_pos ⟨rfl, rfl⟩]
        · rw [hE_wE (by omega) (by omega) (by split <;> omega) (by split <;> omega), if_neg (by omega), G3.e (by unfold Afl; omega), c3]
        · rw [hE_wE (by omega) (by omega) (by split <;> omega) (by split <;> omega), if_neg (by omega), f3]
      · have cd' : diB (B f) = false := by simpa using cd
        simp only [if_neg cd]
        have H3 := fun y => H2.frl (F3 y) (by omega)
        have e8 : ∀ y : Int, -100 < y → y < 100 → gfI (wE g2 a 2 y) a 10 4 = some (J f) := fun y y0 y1 => by
          rw [(H3 y).fI]
          exact congrArg (fun z => some (J z)) (by show hE (wE g2 a 2 y) a 4 = f; rw [hE_wE (by omega) (by omega) (by omega) (by omega), if_neg (by omega), c4])
        have p5 : ∀ y z : Int, pfI (wE g2 a 2 y) a 10 4 (J z) = some (wE (wE g2 a 2 y) a 4 z) := fun y z => pfI_ok (H3 y).tag
        have F4 : ∀ y z : Int, FR (Afl a 4) (wE g2 a 2 y) (wE (wE g2 a 2 y) a 4 z) := fun y z => frL (f := 4)
        refine ⟨wE (wE g2 a 2 (if B f = 59 then 3 else 4)) a 4 (f + 1), ?_, (F02.trans ((F3 _).mono (fun b k q => Afl_k (Or.inl rfl) q))).trans ((F4 _ _).mono (fun b k q => Afl_k (Or.inr (Or.inr rfl)) q)), ?_, ?_, ?_⟩
        · simp (disch := omega) only [j_X10_next_46, e3, p4, e5, H2.f1, p2, rc_ok H2.tag, H2.byteAt, X10_isLetter_ok, X10_isDigit_ok, cl', cd', bI, cond_false, lm8, lm2, lm1, l0, l1, l2, l3, l4, l5, l6, l7, l8, l9, l10, l11, l12, l13, l14, l15, l16, l17, l18, l19, l20, l21, l22, l23, l24, l25, l27, l31, l32, l40, l46, l48, l50, l57, l59, l63, l86, l96, l97, l100, l110, l114, l122, l127, l200, l255, l300, l319, l320, l340, l441, l456, l580, l600, l800, l886, l1206, l1526, J_add, J_sub, J_mul, J_neg, J_lt, J_le, J_eq, jT, jF, iT, iF, eT, eF, aT, aF, ite_true, ite_false, ite_not, bs]
          by_cases c2 : B f = 59
          · simp (disch := omega) only [j_X10_next_226, c2, p2, e8, p5, lm8, lm2, lm1, l0, l1, l2, l3, l4, l5, l6, l7, l8, l9, l10, l11, l12, l13, l14, l15, l16, l17, l18, l19, l20, l21, l22, l23, l24, l25, l27, l31, l32, l40, l46, l48, l50, l57, l59, l63, l86, l96, l97, l100, l110, l114, l122, l127, l200, l255, l300, l319, l320, l340, l441, l456, l580, l600, l800, l886, l1206, l1526, J_add, J_sub, J_mul, J_neg, J_lt, J_le, J_eq, jT, jF, iT, iF, eT, eF, aT, aF, ite_true, ite_false, ite_not, bs]
          · have c2' : B f < 59 ∨ 59 < B f := by omega
            simp (disch := omega) only [j_X10_next_226, if_neg c2, p2, e8, p5, lm8, lm2, lm1, l0, l1, l2, l3, l4, l5, l6, l7, l8, l9, l10, l11, l12, l13, l14, l15, l16, l17, l18, l19, l20, l21, l22, l23, l24, l25, l27, l31, l32, l40, l46, l48, l50, l57, l59, l63, l86, l96, l97, l100, l110, l114, l122, l127, l200, l255, l300, l319, l320, l340, l441, l456, l580, l600, l800, l886, l1206, l1526, J_add, J_sub, J_mul, J_neg, J_lt, J_le, J_eq, jT, jF, iT, iF, eT, eF, aT, aF, ite_true, ite_false, ite_not, bs]
        · rw [hE_wE (by omega) (by omega) (by omega) (by omega), if_neg (by omega), hE_wE (by omega) (by omega) (by split <;> omega) (by split <;> omega), if_pos ⟨rfl, rfl⟩]
        · rw [hE_wE (by omega) (by omega) (by omega) (by omega), if_neg (by omega), hE_wE (by omega) (by omega) (by split <;> omega) (by split <;> omega), if_neg (by omega), c3]
        · rw [hE_wE (by omega) (by omega) (by omega) (by omega), if_pos ⟨rfl, rfl⟩]
end TA2
