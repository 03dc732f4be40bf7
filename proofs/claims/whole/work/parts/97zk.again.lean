/-! PURE PART: an image taken again, both sides -/
/-- image j of both sides: none, or a State at a that shows S -/
def ImO (h : Hp) (x o : Nat) (j : Int) : Prop := hR h (x + 42) j.toNat = 0 ∧ hE h (o + 16) j = 0
def ImS (h : Hp) (x o : Nat) (j : Int) (a : Nat) (S : Sx) : Prop := hR h (x + 42) j.toNat = a ∧ hE h (o + 16) j = 1 ∧ o + 16 < a ∧ a < 999999 ∧ CS h a S ∧ RS h o (j + 1) S ∧ SW S
section AGN
variable {h : Hp} {x o a : Nat} {S S' : Sx} {j : Int}
theorem alZ_ok {b n : Nat} {i : Int} (hT : TZ (top h) b n) (h0 : 0 ≤ i) (h1 : i < n) (hn : n < 100000) : alZ h b (J i) = some (J (hE h b i)) := by
  unfold alZ
  rw [if_pos ⟨hT.1, by rw [show hLen h b = n from hT.2]; exact inB_ok h0 h1 hn⟩, J_nat (by omega) (by omega), hE_J]
theorem SBo.im (M : SBo h x o S) (j0 : 0 ≤ j) (j1 : j < 3) : gfR h x 11 1 = some (x + 42) ∧ alen h (x + 42) 27 = some (J 3) ∧ alR h (x + 42) 27 (J j) = some (hR h (x + 42) j.toNat) := by
  obtain ⟨r1, r2, r3⟩ := M.1.2.2.1
  refine ⟨gfR_ok M.1.1 r1, ?_, alR_ok r2 r3 (by omega) j0 (by omega)⟩
  unfold alen
  rw [if_pos (show hTag h (x + 42) = 27 from r2), show hLen h (x + 42) = 3 from r3]
  rfl
theorem SBo.againS (M : SBo h x o S) (j0 : 0 ≤ j) (j1 : j < 3) (I : ImS h x o j a S') : ∃ h1 h2, m_X11_again x (J j) h = some (J 1, h1) ∧ m_X12_again o (J j) h1 = some (J 1, h2) ∧ FR (St x o) h h2 ∧ SBo h2 x o S' ∧ FR (St x o) h h1 := by
  obtain ⟨i1, i2, i3, i4, i5, i6, i7⟩ := I
  obtain ⟨m1, m2, m3, m4, m5, m6⟩ := id M
  obtain ⟨r1, r2, r3⟩ := M.im j0 j1
  rw [i1] at r3
  obtain ⟨h1, e1, F1, C1⟩ := i5.copyFrom (d := x + 1) m2.1 (by omega)
  have R1 := m3.frame F1 (fun b k b0 b1 q => by omega)
  have J1 := i6.frame F1 (fun b k b0 b1 q => by omega)
  have s1 : hE h1 (o + 16) j = 1 := by rw [F1.e (by omega), i2]
  have p0 : pfI h1 o 12 0 (0 : Int32) = some (wE h1 o 0 0) := pfI_ok (k := 0) (z := 0) R1.1.tag
  have F0 : FR (fun b k => b = o) h1 (wE h1 o 0 0) := FR.wE (A := fun b k => b = o) rfl
  generalize wE h1 o 0 0 = h0 at *
  have J0 := J1.frame F0 (fun b k b0 b1 q => by omega)
  have T0 : TR (top h0) o := J0.1
  obtain ⟨h2, e2, F2, R2⟩ := J0.copyAll (q := 0) i7.1 (by omega) (by omega) (by omega) (by omega) (by omega) (fun k k0 k1 => (i7.2.2.1 k k0 k1).2)
  have C2 := (C1.frame F0 (fun b k b0 b1 q => by omega)).frame F2 (fun b k b0 b1 q => by unfold AIm at q; omega)
  have az : alZ h0 (o + 16) (J j) = some (J 1) := by rw [alZ_ok T0.a36 j0 (by omega) (by omega), F0.e (by omega), s1]
  have ei : m_X12_in (J j) (J 0) (J 2) h0 = some (J 1) := X12_in_T (by omega) (by omega) (by omega)
  have nzz : nz a = some a := nz_ok i4
  have tg := m2.tag
  refine ⟨h1, h2, ?_, ?_, ((F1.mono (fun b k q => by unfold St; omega)).trans (F0.mono (fun b k q => by unfold St A0; omega))).trans (F2.mono (fun b k q => by unfold AIm at q; unfold St A0; omega)), ⟨by rw [F2.1, F0.1, F1.1]; exact m1, C2, R2, i7, m5, m6⟩, F1.mono (fun b k q => by unfold St; omega)⟩
  · unfold m_X11_again
    have a0 : ¬ a = 0 := by omega
    simp (disch := omega) only [r1, r2, r3, nzz, M.r0, rc_ok tg, e1, lm8, lm2, lm1, l0, l1, l2, l3, l4, l5, l6, l7, l8, l9, l10, l11, l12, l13, l14, l15, l16, l17, l18, l19, l20, l21, l22, l23, l24, l25, l27, l31, l32, l40, l46, l48, l50, l57, l59, l63, l86, l96, l97, l100, l110, l114, l122, l127, l200, l255, l300, l319, l320, l340, l441, l456, l580, l600, l800, l886, l1206, l1526, J_add, J_sub, J_mul, J_neg, J_lt, J_le, J_eq, jT, jF, iT, iF, eT, eF, aT, aF, ite_true, ite_false, ite_not, bs]
    exact if_neg a0
  · unfold m_X12_again
    rw [p0]
    simp (disch := omega) only [ei, T0.r36, az, rc_ok T0.tag, e2, lm8, lm2, lm1, l0, l1, l2, l3, l4, l5, l6, l7, l8, l9, l10, l11, l12, l13, l14, l15, l16, l17, l18, l19, l20, l21, l22, l23, l24, l25, l27, l31, l32, l40, l46, l48, l50, l57, l59, l63, l86, l96, l97, l100, l110, l114, l122, l127, l200, l255, l300, l319, l320, l340, l441, l456, l580, l600, l800, l886, l1206, l1526, J_add, J_sub, J_mul, J_neg, J_lt, J_le, J_eq, jT, jF, iT, iF, eT, eF, aT, aF, ite_true, ite_false, ite_not, bs]
end AGN
