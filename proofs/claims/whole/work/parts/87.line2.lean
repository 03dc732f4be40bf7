/-! PURE PART: a line takes a word, the class -/
theorem set_any {h : Hp} {a n : Nat} {i z : Int} (hT : TI (top h) a n) (hn : n < 100000) (i0 : 0 ≤ i) (i1 : i < 2147483648) (z0 : -2147483648 ≤ z) (z1 : z < 2147483648) : ∃ g, m_X5_set a (J i) (J z) h = some g ∧ FR (fun b _ => b = a) h g ∧ ∀ b j, 0 ≤ j → hE g b j = if b = a ∧ j = i ∧ i < n then z else hE h b j := by
  by_cases c : i < n
  · refine ⟨wE h a i z, X5_set_ok hT i0 c hn, FR.wE (A := fun b _ => b = a) rfl, fun b j j0 => ?_⟩
    rw [hE_wE i0 j0 z0 z1]
    by_cases q : b = a ∧ j = i
    · rw [if_pos q, if_pos ⟨q.1, q.2, c⟩]
    · rw [if_neg q, if_neg (fun y => q ⟨y.1, y.2.1⟩)]
  · exact ⟨h, X5_set_out hT (Or.inr (by omega)) (by omega) i1 hn, FR.refl _ _, fun b j j0 => by rw [if_neg (fun y => c y.2.2)]⟩
section LW
variable {h : Hp} {l a : Nat} {B : Int → Int} {L nn nw f t : Int} {v vp sp wp : Int → Int}
theorem CL.word33 (C : CL h l nn nw v vp sp wp) (H : CT h a B L) (hal : a < l ∨ l + 4 < a) (hal2 : a + 1 < l ∨ l + 4 < a + 1) (n2 : nw < 700) (h3 : hE h a 3 = f) (h4 : hE h a 4 = t) (f0 : 0 ≤ f) (tL : t ≤ L) (ft : f ≤ t) (hv : sp nw = spF B f t) (hvp : wp nw = f) (hrg : -2147483648 ≤ sp nw ∧ sp nw < 2147483648) : ∃ h', j_X4_takesWord_33 l a h = some (J 1, h') ∧ FR (fun b k => ALn l b k ∨ ATk a b k) h h' ∧ CL h' l nn (nw + 1) v vp sp wp ∧ hE h' l 4 = hE h l 4 ∧ hE h' a 2 = ckF B L (frF B L t) ∧ hE h' a 3 = frF B L t ∧ hE h' a 4 = toF B L (frF B L t) := by
  have hL := H.2.1.2.1
  obtain ⟨c1, c2, c3, c4, c5, c6, c7⟩ := C
  have en := H.spelling h3 h4 f0 (by omega) ft
  rw [← hv] at en
  have r7 : ∀ g, TLn (top g) l → gfR g l 5 7 = some (l + 3) := fun g T => gfR_ok T.1 T.2.2.2.1.1
  have r8 : ∀ g, TLn (top g) l → gfR g l 5 8 = some (l + 4) := fun g T => gfR_ok T.1 T.2.2.2.2.1
  have tg : ∀ g, TLn (top g) l → hTag g l = 5 := fun g T => T.1
  have m3 : gfI h l 5 3 = some (J nw) := by rw [gfI_ok (tg h c1)]; exact congrArg (fun z => some (J z)) c5
  obtain ⟨g1, s1, F1, cell1⟩ := set_any (h := h) (i := nw) (z := sp nw) c1.2.2.2.1.2 (by omega) c3.1 (by omega) hrg.1 hrg.2
  have T1 : TLn (top g1) l := by rw [F1.1]; exact c1
  have m31 : gfI g1 l 5 3 = some (J nw) := by
    rw [gfI_ok (tg g1 T1)]
    exact congrArg (fun z => some (J z)) (by show hE g1 l 3 = nw; rw [cell1 _ _ (by omega), if_neg (by omega), c5])
  have H1 : CT g1 a B L := H.frame F1 (by omega) (fun k => by omega)
  have e31 : gfI g1 a 10 3 = some (J f) := H1.f3 (by rw [cell1 _ _ (by omega), if_neg (by omega), h3])
  obtain ⟨g2, s2, F2, cell2⟩ := set_any (h := g1) (i := nw) (z := f) T1.2.2.2.2.2 (by omega) c3.1 (by omega) (by omega) (by omega)
  have T2 : TLn (top g2) l := by rw [F2.1]; exact T1
  have m32 : gfI g2 l 5 3 = some (J nw) := by
    rw [gfI_ok (tg g2 T2)]
    exact congrArg (fun z => some (J z)) (by show hE g2 l 3 = nw; rw [cell2 _ _ (by omega), if_neg (by omega), cell1 _ _ (by omega), if_neg (by omega), c5])
  have s3 : pfI g2 l 5 3 (J (nw + 1)) = some (wE g2 l 3 (nw + 1)) := pfI_ok (tg g2 T2)
  have F3 : FR (fun b k => ALn l b k) g2 (wE g2 l 3 (nw + 1)) := FR.wE (A := fun b k => ALn l b k) (Or.inl ⟨rfl, Or.inr (Or.inl rfl)⟩)
  generalize hg3 : wE g2 l 3 (nw + 1) = g3 at *
  have cell3 : ∀ b i, 0 ≤ i → hE g3 b i = if b = l ∧ i = 3 then nw + 1 else hE g2 b i := fun b i i0 => by rw [← hg3, hE_wE (by omega) i0 (by omega) (by omega)]
  have F03 : FR (fun b k => ALn l b k) h g3 := ((F1.mono (fun b k q => Or.inr (Or.inr (Or.inr (Or.inl q))))).trans (F2.mono (fun b k q => Or.inr (Or.inr (Or.inr (Or.inr q)))))).trans F3
  have H3 : CT g3 a B L := H.frame F03 (by unfold ALn; omega) (fun k => by unfold ALn; omega)
  obtain ⟨g4, e5, F4, d2, d3, d4⟩ := H3.next (i := t) (by rw [F03.e (by unfold ALn; omega), h4]) (by omega) tL
  have cell4 : ∀ b i, 0 ≤ i → b ≠ a → hE g4 b i = hE g3 b i := fun b i i0 hb => F4.e (fun q => hb q.1)
  have nl : ∀ b i, 0 ≤ i → b = l + 1 ∨ b = l + 2 ∨ (b = l ∧ i ≠ 3) → hE g4 b i = hE h b i := fun b i i0 hb => by
    rw [cell4 _ _ i0 (by omega), cell3 _ _ i0, if_neg (by omega), cell2 _ _ i0, if_neg (by omega), cell1 _ _ i0, if_neg (by omega)]
  refine ⟨g4, ?_, (F03.mono (fun b k q => Or.inl q)).trans (F4.mono (fun b k q => Or.inr q)), ⟨by rw [F4.1, F03.1]; exact c1, c2, ⟨by omega, by omega⟩, ?_, ?_, fun i i0 i1 => ?_, fun i i0 i1 i2 => ?_⟩, nl _ _ (by omega) (by omega), d2, d3, d4⟩
  · simp (disch := omega) only [j_X4_takesWord_33, r7 h c1, m3, rc_ok H.tag, en, s1, r8 g1 T1, m31, e31, s2, m32, s3, rc_ok H3.tag, e5, lm8, lm2, lm1, l0, l1, l2, l3, l4, l5, l6, l7, l8, l9, l10, l11, l12, l13, l14, l15, l16, l17, l18, l19, l20, l21, l22, l23, l24, l25, l27, l31, l32, l40, l46, l48, l50, l57, l59, l63, l86, l96, l97, l100, l110, l114, l122, l127, l200, l255, l300, l319, l320, l340, l441, l456, l580, l600, l800, l886, l1206, l1526, J_add, J_sub, J_mul, J_neg, J_lt, J_le, J_eq, jT, jF, iT, iF, eT, eF, aT, aF, ite_true, ite_false, ite_not, bs]
  · rw [nl _ _ (by omega) (by omega), c4]
  · rw [cell4 _ _ (by omega) (by omega), cell3 _ _ (by omega), if_pos ⟨rfl, rfl⟩]
  · rw [nl _ _ i0 (by omega), nl _ _ i0 (by omega)]
    exact c6 i i0 i1
  · have A1 : hE g4 (l + 3) i = if i = nw then sp nw else hE h (l + 3) i := by
      rw [cell4 _ _ i0 (by omega), cell3 _ _ i0, if_neg (show ¬ (l + 3 = l ∧ i = 3) by omega), cell2 _ _ i0, if_neg (show ¬ (l + 3 = l + 4 ∧ i = nw ∧ nw < ((21 : Nat) : Int)) by omega), cell1 _ _ i0]
      by_cases q : i = nw
      · rw [if_pos q, if_pos ⟨rfl, q, by omega⟩]
      · rw [if_neg q, if_neg (fun y => q y.2.1)]
    have A2 : hE g4 (l + 4) i = if i = nw then f else hE h (l + 4) i := by
      rw [cell4 _ _ i0 (by omega), cell3 _ _ i0, if_neg (show ¬ (l + 4 = l ∧ i = 3) by omega), cell2 _ _ i0, cell1 _ _ i0]
      by_cases q : i = nw
      · rw [if_pos q, if_pos ⟨rfl, q, by omega⟩]
      · rw [if_neg q, if_neg (fun y => q y.2.1), if_neg (by omega)]
    rw [A1, A2]
    by_cases q : i = nw
    · rw [if_pos q, if_pos q, q]
      exact ⟨rfl, hvp.symm⟩
    · rw [if_neg q, if_neg q]
      exact c7 i i0 (by omega) i2
end LW
