/-! PURE PART: an image copied, the reference -/
section IMG
variable {h : Hp} {a o N : Nat} {S : Sx} {w p q m1 m2 : Int}
theorem X12_copyRow_ok (ta : TI (top h) a N) (w0 : 0 ≤ w) (e1 : w * p = m1) (e2 : w * q = m2) (a0 : 0 ≤ m1) (a1 : m1 + w ≤ N) (b0 : 0 ≤ m2) (b1 : m2 + w ≤ N) (dj : m1 + w ≤ m2 ∨ m2 + w ≤ m1) (N9 : N < 100000) : ∃ g, m_X12_copyRow a (J w) (J p) (J q) h = some g ∧ FR (fun b k => b = a ∧ m2.toNat ≤ k ∧ k < (m2 + w).toNat) h g ∧ ∀ i, 0 ≤ i → i < w → hE g a (m2 + i) = hE h a (m1 + i) := by
  obtain ⟨st, ⟨g, rfl, F, z⟩, el⟩ := loop_ex (body := fun (k_ : Int32 × Hp → Option Hp) (s : Int32 × Hp) => b_X12_copyRow_3 a (J w) (J p) (J q) (fun v4q hq => k_ (v4q, hq)) s.1 s.2) (s := (J 0, h)) (fun i st => ∃ g, st = (J i, g) ∧ FR (fun b k => b = a ∧ m2.toNat ≤ k ∧ k < (m2 + w).toNat) h g ∧ ∀ j, 0 ≤ j → j < i → hE g a (m2 + j) = hE h a (m1 + j)) (fun st => some st.2) w w0 (by omega) ⟨h, rfl, FR.refl _ _, fun j j0 j1 => by omega⟩ (by
    rintro k_ i st i0 i1 ⟨g, rfl, F, z⟩
    have tg : TI (top g) a N := by rw [F.1]; exact ta
    have e9 : alI g a (J (m1 + i)) = some (J (hE h a (m1 + i))) := by rw [alI_ok tg (by omega) (by omega) N9, F.e (by omega)]
    have rg := hE_rg h a (m1 + i)
    have s1 : asI g a (J (m2 + i)) (J (hE h a (m1 + i))) = some (wE g a (m2 + i) (hE h a (m1 + i))) := asI_ok tg (by omega) (by omega) N9
    refine ⟨(J (i + 1), wE g a (m2 + i) (hE h a (m1 + i))), ⟨_, rfl, F.trans (FR.wE (A := fun b k => b = a ∧ m2.toNat ≤ k ∧ k < (m2 + w).toNat) ⟨rfl, by omega, by omega⟩), fun j j0 j1 => ?_⟩, ?_⟩
    · rw [hE_wE (by omega) (by omega) rg.1 rg.2]
      by_cases y : j = i
      · rw [if_pos ⟨rfl, by omega⟩, y]
      · rw [if_neg (by omega), z j j0 (by omega)]
    · show b_X12_copyRow_3 a (J w) (J p) (J q) (fun v4q hq => k_ (v4q, hq)) (J i) g = _
      simp (disch := omega) only [b_X12_copyRow_3, e1, e2, e9, s1, lm8, lm2, lm1, l0, l1, l2, l3, l4, l5, l6, l7, l8, l9, l10, l11, l12, l13, l14, l15, l16, l17, l18, l19, l20, l21, l22, l23, l24, l25, l27, l31, l32, l40, l46, l48, l50, l57, l59, l63, l86, l96, l97, l100, l110, l114, l122, l127, l200, l255, l300, l319, l320, l340, l441, l456, l580, l600, l800, l886, l1206, l1526, J_add, J_sub, J_mul, J_neg, J_lt, J_le, J_eq, jT, jF, iT, iF, eT, eF, aT, aF, ite_true, ite_false, ite_not, bs]) (by
    rintro k_ st ⟨g, rfl, -⟩
    show b_X12_copyRow_3 a (J w) (J p) (J q) (fun v4q hq => k_ (v4q, hq)) (J w) g = _
    simp (disch := omega) only [b_X12_copyRow_3, lm8, lm2, lm1, l0, l1, l2, l3, l4, l5, l6, l7, l8, l9, l10, l11, l12, l13, l14, l15, l16, l17, l18, l19, l20, l21, l22, l23, l24, l25, l27, l31, l32, l40, l46, l48, l50, l57, l59, l63, l86, l96, l97, l100, l110, l114, l122, l127, l200, l255, l300, l319, l320, l340, l441, l456, l580, l600, l800, l886, l1206, l1526, J_add, J_sub, J_mul, J_neg, J_lt, J_le, J_eq, jT, jF, iT, iF, eT, eF, aT, aF, ite_true, ite_false, ite_not, bs])
  exact ⟨g, el, F, z⟩
theorem X12_copyBytes (T : TR (top h) o) (p0 : 0 ≤ p) (p1 : p < 4) (q0 : 0 ≤ q) (q1 : q < 4) (pq : p ≠ q) (B : ∀ k, 0 ≤ k → k < 600 → -128 ≤ hE h (o + 1) (600 * p + k) ∧ hE h (o + 1) (600 * p + k) ≤ 127) (K : Hp → Option Hp) : ∃ g, l_X12_copyAll_2 o (J p) (J q) K (J 0) h = K g ∧ FR (fun b k => b = o + 1 ∧ (600 * q).toNat ≤ k ∧ k < (600 * q + 600).toNat) h g ∧ ∀ i, 0 ≤ i → i < 600 → hE g (o + 1) (600 * q + i) = hE h (o + 1) (600 * p + i) := by
  obtain ⟨st, ⟨g, rfl, F, z⟩, el⟩ := loop_ex (body := fun (k_ : Int32 × Hp → Option Hp) (s : Int32 × Hp) => b_X12_copyAll_2 o (J p) (J q) K (fun v3q hq => k_ (v3q, hq)) s.1 s.2) (s := (J 0, h)) (fun i st => ∃ g, st = (J i, g) ∧ FR (fun b k => b = o + 1 ∧ (600 * q).toNat ≤ k ∧ k < (600 * q + 600).toNat) h g ∧ ∀ j, 0 ≤ j → j < i → hE g (o + 1) (600 * q + j) = hE h (o + 1) (600 * p + j)) (fun st => K st.2) 600 (by omega) (by omega) ⟨h, rfl, FR.refl _ _, fun j j0 j1 => by omega⟩ (by
    rintro k_ i st i0 i1 ⟨g, rfl, F, z⟩
    have tg : TR (top g) o := by rw [F.1]; exact T
    have e9 : alB g (o + 1) (J (600 * p + i)) = some (J (hE h (o + 1) (600 * p + i))) := by rw [alB_ok tg.a1 (by omega) (by omega) (by omega), F.e (by omega)]
    have rg := B i i0 i1
    have s1 : asB g (o + 1) (J (600 * q + i)) (J (hE h (o + 1) (600 * p + i))) = some (wE g (o + 1) (600 * q + i) (hE h (o + 1) (600 * p + i))) := asB_ok tg.a1 (by omega) (by omega) (by omega) rg.1 rg.2
    refine ⟨(J (i + 1), wE g (o + 1) (600 * q + i) (hE h (o + 1) (600 * p + i))), ⟨_, rfl, F.trans (FR.wE (A := fun b k => b = o + 1 ∧ (600 * q).toNat ≤ k ∧ k < (600 * q + 600).toNat) ⟨rfl, by omega, by omega⟩), fun j j0 j1 => ?_⟩, ?_⟩
    · rw [hE_wE (by omega) (by omega) (by omega) (by omega)]
      by_cases y : j = i
      · rw [if_pos ⟨rfl, by omega⟩, y]
      · rw [if_neg (by omega), z j j0 (by omega)]
    · show b_X12_copyAll_2 o (J p) (J q) K (fun v3q hq => k_ (v3q, hq)) (J i) g = _
      simp (disch := omega) only [b_X12_copyAll_2, tg.r1, e9, s1, lm8, lm2, lm1, l0, l1, l2, l3, l4, l5, l6, l7, l8, l9, l10, l11, l12, l13, l14, l15, l16, l17, l18, l19, l20, l21, l22, l23, l24, l25, l27, l31, l32, l40, l46, l48, l50, l57, l59, l63, l86, l96, l97, l100, l110, l114, l122, l127, l200, l255, l300, l319, l320, l340, l441, l456, l580, l600, l800, l886, l1206, l1526, J_add, J_sub, J_mul, J_neg, J_lt, J_le, J_eq, jT, jF, iT, iF, eT, eF, aT, aF, ite_true, ite_false, ite_not, bs]) (by
    rintro k_ st ⟨g, rfl, -⟩
    show b_X12_copyAll_2 o (J p) (J q) K (fun v3q hq => k_ (v3q, hq)) (J 600) g = _
    simp (disch := omega) only [b_X12_copyAll_2, lm8, lm2, lm1, l0, l1, l2, l3, l4, l5, l6, l7, l8, l9, l10, l11, l12, l13, l14, l15, l16, l17, l18, l19, l20, l21, l22, l23, l24, l25, l27, l31, l32, l40, l46, l48, l50, l57, l59, l63, l86, l96, l97, l100, l110, l114, l122, l127, l200, l255, l300, l319, l320, l340, l441, l456, l580, l600, l800, l886, l1206, l1526, J_add, J_sub, J_mul, J_neg, J_lt, J_le, J_eq, jT, jF, iT, iF, eT, eF, aT, aF, ite_true, ite_false, ite_not, bs])
  exact ⟨g, el, F, z⟩
end IMG
