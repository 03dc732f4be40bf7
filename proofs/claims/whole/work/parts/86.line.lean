/-! PURE PART: a line's numbers and words, the class -/
def TLn (t : Tp) (l : Nat) : Prop := t.1 l = 5 ∧ (t.2.2 l 5 = l + 1 ∧ TI t (l + 1) 3) ∧ (t.2.2 l 6 = l + 2 ∧ TI t (l + 2) 3) ∧ (t.2.2 l 7 = l + 3 ∧ TI t (l + 3) 21) ∧ (t.2.2 l 8 = l + 4 ∧ TI t (l + 4) 21)
/-- a line's numbers (values v at places vp) and words (spellings sp at places wp), as far as they are read -/
def CL (h : Hp) (l : Nat) (nn nw : Int) (v vp sp wp : Int → Int) : Prop := TLn (top h) l ∧ (0 ≤ nn ∧ nn ≤ 3) ∧ (0 ≤ nw ∧ nw ≤ 700) ∧ hE h l 2 = nn ∧ hE h l 3 = nw ∧ (∀ i, 0 ≤ i → i < nn → hE h (l + 1) i = v i ∧ hE h (l + 2) i = vp i) ∧ ∀ i, 0 ≤ i → i < nw → i < 21 → hE h (l + 3) i = sp i ∧ hE h (l + 4) i = wp i
def ALn (l b k : Nat) : Prop := (b = l ∧ (k = 2 ∨ k = 3 ∨ k = 4)) ∨ b = l + 1 ∨ b = l + 2 ∨ b = l + 3 ∨ b = l + 4
section LI
variable {h : Hp} {l a : Nat} {B : Int → Int} {L nn nw f t : Int} {v vp sp wp : Int → Int}
theorem CL.tag (C : CL h l nn nw v vp sp wp) : hTag h l = 5 := C.1.1
theorem CL.frame {A : Nat → Nat → Prop} {h' : Hp} (C : CL h l nn nw v vp sp wp) (F : FR A h h') (n0 : ∀ k, ¬ A l k) (n1 : ∀ b k, l < b → b ≤ l + 4 → ¬ A b k) : CL h' l nn nw v vp sp wp := by
  obtain ⟨c1, c2, c3, c4, c5, c6, c7⟩ := C
  refine ⟨by rw [F.1]; exact c1, c2, c3, by rw [F.e (n0 _), c4], by rw [F.e (n0 _), c5], fun i i0 i1 => ?_, fun i i0 i1 i2 => ?_⟩
  · rw [F.e (n1 _ _ (by omega) (by omega)), F.e (n1 _ _ (by omega) (by omega))]
    exact c6 i i0 i1
  · rw [F.e (n1 _ _ (by omega) (by omega)), F.e (n1 _ _ (by omega) (by omega))]
    exact c7 i i0 i1 i2
/-- a number taken -/
theorem CL.number (C : CL h l nn nw v vp sp wp) (H : CT h a B L) (hal : a < l ∨ l + 4 < a) (hal2 : a + 1 < l ∨ l + 4 < a + 1) (n2 : nn ≤ 2) (h2 : hE h a 2 = 2) (h3 : hE h a 3 = f) (h4 : hE h a 4 = t) (f0 : 0 ≤ f) (tL : t ≤ L) (ft : f < t) (t2 : t ≤ f + 2) (hv : v nn = nuN B f (t - f)) (hvp : vp nn = f) (hrg : -2147483648 ≤ v nn ∧ v nn < 2147483648) : ∃ h', m_X4_takesNumber l a h = some (J 1, h') ∧ FR (fun b k => ALn l b k ∨ ATk a b k) h h' ∧ CL h' l (nn + 1) nw v vp sp wp ∧ hE h' l 4 = hE h l 4 ∧ hE h' a 2 = ckF B L (frF B L t) ∧ hE h' a 3 = frF B L t ∧ hE h' a 4 = toF B L (frF B L t) := by
  have hL := H.2.1.2.1
  obtain ⟨c1, c2, c3, c4, c5, c6, c7⟩ := C
  have e2 := H.f2 h2
  have en := H.number h3 h4 f0 (by omega) ft t2
  rw [← hv] at en
  have r5 : ∀ g, TLn (top g) l → gfR g l 5 5 = some (l + 1) := fun g T => gfR_ok T.1 T.2.1.1
  have r6 : ∀ g, TLn (top g) l → gfR g l 5 6 = some (l + 2) := fun g T => gfR_ok T.1 T.2.2.1.1
  have tg : ∀ g, TLn (top g) l → hTag g l = 5 := fun g T => T.1
  have m2 : gfI h l 5 2 = some (J nn) := by rw [gfI_ok (tg h c1)]; exact congrArg (fun z => some (J z)) c4
  have s1 : m_X5_set (l + 1) (J nn) (J (v nn)) h = some (wE h (l + 1) nn (v nn)) := X5_set_ok c1.2.1.2 (by omega) (by omega) (by omega)
  have F1 : FR (fun b k => ALn l b k) h (wE h (l + 1) nn (v nn)) := FR.wE (A := fun b k => ALn l b k) (Or.inr (Or.inl rfl))
  generalize hg1 : wE h (l + 1) nn (v nn) = g1 at *
  have cell1 : ∀ b i, 0 ≤ i → hE g1 b i = if b = l + 1 ∧ i = nn then v nn else hE h b i := fun b i i0 => by rw [← hg1, hE_wE (by omega) i0 hrg.1 hrg.2]
  have T1 : TLn (top g1) l := by rw [F1.1]; exact c1
  have l21 : gfI g1 l 5 2 = some (J nn) := by
    rw [gfI_ok (tg g1 T1)]
    exact congrArg (fun z => some (J z)) (by show hE g1 l 2 = nn; rw [cell1 _ _ (by omega), if_neg (by omega), c4])
  have H1 : CT g1 a B L := H.frame F1 (by unfold ALn; omega) (fun k => by unfold ALn; omega)
  have e31 : gfI g1 a 10 3 = some (J f) := H1.f3 (by rw [cell1 _ _ (by omega), if_neg (by omega), h3])
  have s2 : m_X5_set (l + 2) (J nn) (J f) g1 = some (wE g1 (l + 2) nn f) := X5_set_ok T1.2.2.1.2 (by omega) (by omega) (by omega)
  have F2 : FR (fun b k => ALn l b k) g1 (wE g1 (l + 2) nn f) := FR.wE (A := fun b k => ALn l b k) (Or.inr (Or.inr (Or.inl rfl)))
  generalize hg2 : wE g1 (l + 2) nn f = g2 at *
  have cell2 : ∀ b i, 0 ≤ i → hE g2 b i = if b = l + 2 ∧ i = nn then f else hE g1 b i := fun b i i0 => by rw [← hg2, hE_wE (by omega) i0 (by omega) (by omega)]
  have T2 : TLn (top g2) l := by rw [F2.1]; exact T1
  have l22 : gfI g2 l 5 2 = some (J nn) := by
    rw [gfI_ok (tg g2 T2)]
    exact congrArg (fun z => some (J z)) (by show hE g2 l 2 = nn; rw [cell2 _ _ (by omega), if_neg (by omega), cell1 _ _ (by omega), if_neg (by omega), c4])
  have s3 : pfI g2 l 5 2 (J (nn + 1)) = some (wE g2 l 2 (nn + 1)) := pfI_ok (tg g2 T2)
  have F3 : FR (fun b k => ALn l b k) g2 (wE g2 l 2 (nn + 1)) := FR.wE (A := fun b k => ALn l b k) (Or.inl ⟨rfl, Or.inl rfl⟩)
  generalize hg3 : wE g2 l 2 (nn + 1) = g3 at *
  have cell3 : ∀ b i, 0 ≤ i → hE g3 b i = if b = l ∧ i = 2 then nn + 1 else hE g2 b i := fun b i i0 => by rw [← hg3, hE_wE (by omega) i0 (by omega) (by omega)]
  have F03 : FR (fun b k => ALn l b k) h g3 := (F1.trans F2).trans F3
  have H3 : CT g3 a B L := H.frame F03 (by unfold ALn; omega) (fun k => by unfold ALn; omega)
  obtain ⟨g4, e5, F4, d2, d3, d4⟩ := H3.next (i := t) (by rw [F03.e (by unfold ALn; omega), h4]) (by omega) tL
  have cell4 : ∀ b i, 0 ≤ i → b ≠ a → hE g4 b i = hE g3 b i := fun b i i0 hb => F4.e (fun q => hb q.1)
  refine ⟨g4, ?_, (F03.mono (fun b k q => Or.inl q)).trans (F4.mono (fun b k q => Or.inr q)), ⟨by rw [F4.1, F03.1]; exact c1, ⟨by omega, by omega⟩, c3, ?_, ?_, fun i i0 i1 => ?_, fun i i0 i1 i2 => ?_⟩, ?_, d2, d3, d4⟩
  · simp (disch := omega) only [m_X4_takesNumber, e2, r5 h c1, m2, rc_ok H.tag, en, s1, r6 g1 T1, l21, e31, s2, l22, s3, rc_ok H3.tag, e5, lm8, lm2, lm1, l0, l1, l2, l3, l4, l5, l6, l7, l8, l9, l10, l11, l12, l13, l14, l15, l16, l17, l18, l19, l20, l21, l22, l23, l24, l25, l27, l31, l32, l40, l46, l48, l50, l57, l59, l63, l86, l96, l97, l100, l110, l114, l122, l127, l200, l255, l300, l319, l320, l340, l441, l456, l580, l600, l800, l886, l1206, l1526, J_add, J_sub, J_mul, J_neg, J_lt, J_le, J_eq, jT, jF, iT, iF, eT, eF, aT, aF, ite_true, ite_false, ite_not, bs]
  · rw [cell4 _ _ (by omega) (by omega), cell3 _ _ (by omega), if_pos ⟨rfl, rfl⟩]
  · rw [cell4 _ _ (by omega) (by omega), cell3 _ _ (by omega), if_neg (by omega), cell2 _ _ (by omega), if_neg (by omega), cell1 _ _ (by omega), if_neg (by omega), c5]
  · have A1 : hE g4 (l + 1) i = if i = nn then v nn else hE h (l + 1) i := by
      rw [cell4 _ _ i0 (by omega), cell3 _ _ i0, if_neg (show ¬ (l + 1 = l ∧ i = 2) by omega), cell2 _ _ i0, if_neg (show ¬ (l + 1 = l + 2 ∧ i = nn) by omega), cell1 _ _ i0]
      simp only [true_and]
    have A2 : hE g4 (l + 2) i = if i = nn then f else hE h (l + 2) i := by
      rw [cell4 _ _ i0 (by omega), cell3 _ _ i0, if_neg (show ¬ (l + 2 = l ∧ i = 2) by omega), cell2 _ _ i0, cell1 _ _ i0, if_neg (show ¬ (l + 2 = l + 1 ∧ i = nn) by omega)]
      simp only [true_and]
    rw [A1, A2]
    by_cases q : i = nn
    · rw [if_pos q, if_pos q, q]
      exact ⟨rfl, hvp.symm⟩
    · rw [if_neg q, if_neg q]
      exact c6 i i0 (by omega)
  · rw [cell4 _ _ i0 (by omega), cell3 _ _ i0, if_neg (by omega), cell2 _ _ i0, if_neg (by omega), cell1 _ _ i0, if_neg (by omega), cell4 _ _ i0 (by omega), cell3 _ _ i0, if_neg (by omega), cell2 _ _ i0, if_neg (by omega), cell1 _ _ i0, if_neg (by omega)]
    exact c7 i i0 i1 i2
  · rw [cell4 _ _ (by omega) (by omega), cell3 _ _ (by omega), if_neg (by omega), cell2 _ _ (by omega), if_neg (by omega), cell1 _ _ (by omega), if_neg (by omega)]
end LI
