/-! PURE PART: a text read, the reference -/
/-- e is the fault s at p (0: none) -/
def DCD (s p e : Int) : Prop := (0 ≤ s ∧ s ≤ 4) ∧ (s = 0 → p = -1 ∧ e = 9999) ∧ (s ≠ 0 → 0 ≤ p ∧ p ≤ 600 ∧ e = 8 * p + s)
theorem DCD.eq {s p s' p' e : Int} (a : DCD s p e) (b : DCD s' p' e) : s = s' ∧ p = p' := by
  obtain ⟨a1, a2, a3⟩ := a
  obtain ⟨b1, b2, b3⟩ := b
  by_cases c : s = 0
  · have := a2 c
    by_cases d : s' = 0
    · have := b2 d
      omega
    · have := b3 d
      omega
  · have := a3 c
    by_cases d : s' = 0
    · have := b2 d
      omega
    · have := b3 d
      omega
theorem RXx.map {h0 h : Hp} {o : Nat} {B : Int → Int} {L s f x : Int} {D D' : Int → Hp → Prop} (R : RXx h0 h o B L s f x D) (m : 0 ≤ liK B L s f → liK B L s f < 15 → miF B L f (liK B L s f) = -1 → D (liK B L s f) h → D' (liK B L s f) h) : RXx h0 h o B L s f x D' := by
  rcases R with a | ⟨a, b, c, d, e, i⟩
  · exact Or.inl a
  · exact Or.inr ⟨a, b, c, d, e, m b.1 b.2 c i⟩
def Art (o b k : Nat) : Prop := Alf o b k ∨ (b = o + 3 ∧ k = 0) ∨ (b = o + 4 ∧ k = 0)
section RTx
variable {h : Hp} {o : Nat} {B : Int → Int} {L s : Int} {el : (Int → Int) → Int → Int → Int} {stp : (Int → Int) → Int → Int → Int → Int → Int}
theorem X12_readText_ok (D : Hp → Int → (Int → Int) → Prop) (hD : ∀ A g g' E T, D g E T → FR A g g' → (∀ k, ¬ A (o + 9) k) → D g' E T) (H : RP h o B L) (s0 : 0 ≤ s) (s1 : s ≤ 2) (d0 : ∀ g, TR (top g) o → (∀ i, 0 ≤ i → i < 1526 → hE g (o + 9) i = 0) → D g 9999 (fun _ => 0))
    (hline : ∀ (g : Hp) (n : Nat), (n : Int) ≤ nlF B L s → lsN B L s n < L → RP g o B L → RK g o B L (lsN B L s n) → ENr g o (tyN el stp B L s n).1 → D g (tyN el stp B L s n).1 (tyN el stp B L s n).2 → hE g o 22 = 1 → hE g o 21 = 0 → hE g o 23 = (n : Int) → ∃ x g', lnFn s o (ltF B L (lsN B L s n)) (J (lsN B L s n)) g = some (J x, g') ∧ RXx g g' o B L s (lsN B L s n) x (fun _ g' => ENr g' o (tyN el stp B L s (n + 1)).1 ∧ D g' (tyN el stp B L s (n + 1)).1 (tyN el stp B L s (n + 1)).2)) :
    ∃ h', m_X12_readText o (J s) h = some (J (b01 (decide (feT B L s (tyN el stp B L s (nlF B L s).toNat).1 = 9999))), h') ∧ FR (Art o) h h' ∧ (∃ z p, hE h' (o + 3) 0 = z ∧ hE h' (o + 4) 0 = p ∧ DCD z p (feT B L s (tyN el stp B L s (nlF B L s).toNat).1)) ∧ (feT B L s (tyN el stp B L s (nlF B L s).toNat).1 = 9999 → D h' 9999 (tyN el stp B L s (nlF B L s).toNat).2) := by
  have hL := H.2.1
  have T := H.1
  obtain ⟨n0, n1, n2, n3⟩ := nl_spec (B := B) (s := s) hL.1 hL.2.1
  have lr : ∀ i : Int, 0 ≤ lsI B L s i ∧ lsI B L s i ≤ L := fun i => ls_rg hL.1 hL.2.1 _
  have fe : feT B L s (tyN el stp B L s (nlF B L s).toNat).1 = if loF B L s (lsI B L s (nlF B L s)) = 1 then 8 * leF B L s (lsI B L s (nlF B L s)) + 1 else (tyN el stp B L s (nlF B L s).toNat).1 := rfl
  obtain ⟨st, ⟨g1, rfl, F1, z1⟩, el_⟩ := loop_ex (body := fun (k_ : Int32 × Hp → Option (Int32 × Hp)) (st : Int32 × Hp) => b_X12_readText_2 o (J s) (fun hz1 => j_X12_readText_22 o (J s) hz1) (fun v2q hq => k_ (v2q, hq)) st.1 st.2) (s := (J 0, h)) (fun i st => ∃ g, st = (J i, g) ∧ FR (fun b _ => b = o + 9) h g ∧ ∀ j, 0 ≤ j → j < i → hE g (o + 9) j = 0) (fun st => j_X12_readText_22 o (J s) st.2) 1526 (by omega) (by omega) ⟨h, rfl, FR.refl _ _, fun j j0 j1 => by omega⟩ (by
    rintro k_ i st i0 i1 ⟨g, rfl, F, z⟩
    have tr : TR (top g) o := by rw [F.1]; exact T
    have s1 : asI g (o + 9) (J i) (J 0) = some (wE g (o + 9) i 0) := asI_ok tr.a18 i0 (by omega) (by omega)
    refine ⟨(J (i + 1), wE g (o + 9) i 0), ⟨_, rfl, F.trans (FR.wE (A := fun b _ => b = o + 9) rfl), fun j j0 j1 => ?_⟩, ?_⟩
    · rw [hE_wE i0 j0 (by omega) (by omega)]
      by_cases q : j = i
      · rw [if_pos ⟨rfl, q⟩]
      · rw [if_neg (fun y => q y.2), z j j0 (by omega)]
    · show b_X12_readText_2 o (J s) (fun hz1 => j_X12_readText_22 o (J s) hz1) (fun v2q hq => k_ (v2q, hq)) (J i) g = _
      simp (disch := omega) only [b_X12_readText_2, tr.r18, s1, lm8, lm2, lm1, l0, l1, l2, l3, l4, l5, l6, l7, l8, l9, l10, l11, l12, l13, l14, l15, l16, l17, l18, l19, l20, l21, l22, l23, l24, l25, l27, l31, l32, l40, l46, l48, l50, l57, l59, l63, l86, l96, l97, l100, l110, l114, l122, l127, l200, l255, l300, l319, l320, l340, l441, l456, l580, l600, l800, l886, l1206, l1526, J_add, J_sub, J_mul, J_neg, J_lt, J_le, J_eq, jT, jF, iT, iF, eT, eF, aT, aF, ite_true, ite_false, ite_not, bs]) (by
    rintro k_ st ⟨g, rfl, -⟩
    show b_X12_readText_2 o (J s) (fun hz1 => j_X12_readText_22 o (J s) hz1) (fun v2q hq => k_ (v2q, hq)) (J 1526) g = _
    simp (disch := omega) only [b_X12_readText_2, lm8, lm2, lm1, l0, l1, l2, l3, l4, l5, l6, l7, l8, l9, l10, l11, l12, l13, l14, l15, l16, l17, l18, l19, l20, l21, l22, l23, l24, l25, l27, l31, l32, l40, l46, l48, l50, l57, l59, l63, l86, l96, l97, l100, l110, l114, l122, l127, l200, l255, l300, l319, l320, l340, l441, l456, l580, l600, l800, l886, l1206, l1526, J_add, J_sub, J_mul, J_neg, J_lt, J_le, J_eq, jT, jF, iT, iF, eT, eF, aT, aF, ite_true, ite_false, ite_not, bs])
  have e1 : m_X12_readText o (J s) h = j_X12_readText_22 o (J s) g1 := el_
  have F1' : FR (Alf o) h g1 := F1.mono (fun b k q => by unfold Alf Arl; omega)
  have H1 := H.alf F1'
  have p2 : pfI g1 o 12 9 (J 0) = some (wE g1 o 9 0) := H1.pI
  have F2 : FR (fun b k => b = o ∧ k = 9) g1 (wE g1 o 9 0) := FR.wE (A := fun b k => b = o ∧ k = 9) ⟨rfl, rfl⟩
  have z2 : hE (wE g1 o 9 0) o 9 = 0 := by rw [hE_wE (by omega) (by omega) (by omega) (by omega), if_pos ⟨rfl, rfl⟩]
  generalize wE g1 o 9 0 = g2 at *
  have F2' : FR (Alf o) g1 g2 := F2.mono (fun b k q => by unfold Alf Arl Ard; omega)
  have H2 := H1.alf F2'
  have p3 : pfI g2 o 12 16 (J 0) = some (wE g2 o 16 0) := H2.pI
  have F3 : FR (fun b k => b = o ∧ k = 16) g2 (wE g2 o 16 0) := FR.wE (A := fun b k => b = o ∧ k = 16) ⟨rfl, rfl⟩
  have z3 : hE (wE g2 o 16 0) o 16 = 0 := by rw [hE_wE (by omega) (by omega) (by omega) (by omega), if_pos ⟨rfl, rfl⟩]
  generalize wE g2 o 16 0 = g3 at *
  have F3' : FR (Alf o) g2 g3 := F3.mono (fun b k q => by unfold Alf Arl Ard; omega)
  have H3 := H2.alf F3'
  have hL' := hL
  obtain ⟨g4, e4, F4, k1, k2, k3, k4, k5⟩ := H3.token (i := 0) (by rw [F3.e (by omega), z2]) (by omega) hL.1
  have F4' : FR (Alf o) g3 g4 := F4.mono (fun b k q => Or.inl (Or.inl (Ard_n q)))
  have H4 := H3.alf F4'
  have K4 : RK g4 o B L (lsI B L s 0) := ⟨k1, k2, k3, k4, k5⟩
  have E4 : ENr g4 o 9999 := ⟨0, hE g4 o 17, by rw [F4.e (by unfold ARk; omega), z3], rfl, by omega, fun _ => rfl, fun q => absurd rfl q⟩
  have D4 : D g4 9999 (fun _ => 0) := d0 g4 H4.1 (fun i i0 i1 => by rw [F4.e (by unfold ARk; omega), F3.e (by omega), F2.e (by omega), z1 i i0 i1])
  obtain ⟨g5, e5, F5, w5, d5⟩ := linesLoop (el := el) (stp := stp) D hD H4 s0 s1 K4 E4 D4 hline
  have H5 := H4.alf F5
  have F05 := (((F1'.trans F2').trans F3').trans F4').trans F5
  have hd : m_X12_readText o (J s) h = (gfR g5 o 12 3).bind fun x3 => if J (if loF B L s (lsI B L s (nlF B L s)) = 1 then 0 else 1) = 0 then j_X12_readText_59 o (J (if loF B L s (lsI B L s (nlF B L s)) = 1 then 0 else 1)) x3 (0 : Int32) (1 : Int32) g5 else (gfI g5 o 12 16).bind fun x4 => j_X12_readText_59 o (J (if loF B L s (lsI B L s (nlF B L s)) = 1 then 0 else 1)) x3 (0 : Int32) x4 g5 := by
    rw [e1]
    unfold j_X12_readText_22
    rw [show (0 : Int32) = J 0 from rfl, p2, bs, p3, bs, rc_ok H3.tag, e4, bs, rc_ok H4.tag, e5, bs]
  -- the two cells
  have put : ∀ z p : Int, -2147483648 ≤ z → z < 2147483648 → -2147483648 ≤ p → p < 2147483648 → ∃ g6 h', asI g5 (o + 3) (J 0) (J z) = some g6 ∧ FR (fun b k => b = o + 3 ∧ k = 0) g5 g6 ∧ asI g6 (o + 4) (J 0) (J p) = some h' ∧ FR (fun b k => b = o + 4 ∧ k = 0) g6 h' ∧ hE h' (o + 3) 0 = z ∧ hE h' (o + 4) 0 = p := fun z p a b c d => by
    have T5 := H5.1
    refine ⟨wE g5 (o + 3) 0 z, wE (wE g5 (o + 3) 0 z) (o + 4) 0 p, asI_ok T5.a3 (by omega) (by omega) (by omega), FR.wE (A := fun b k => b = o + 3 ∧ k = 0) ⟨rfl, rfl⟩, asI_ok T5.a4 (by omega) (by omega) (by omega), FR.wE (A := fun b k => b = o + 4 ∧ k = 0) ⟨rfl, rfl⟩, ?_, ?_⟩
    · rw [hE_wE (by omega) (by omega) c d, if_neg (by omega), hE_wE (by omega) (by omega) a b, if_pos ⟨rfl, rfl⟩]
    · rw [hE_wE (by omega) (by omega) c d, if_pos ⟨rfl, rfl⟩]
  by_cases c1 : loF B L s (lsI B L s (nlF B L s)) = 1
  · rw [if_pos c1] at hd fe
    have lL := le_rg (B := B) (s := s) (lr (nlF B L s)).1 (lr (nlF B L s)).2 hL.2.1
    have h6 := hL.2.1
    have r0 := (lr (nlF B L s)).1
    have w := w5 c1
    obtain ⟨g6, h', a1, G1, a2, G2, v1, v2⟩ := put 1 (leF B L s (lsI B L s (nlF B L s))) (by omega) (by omega) (by omega) (by omega)
    have T6 : TR (top g6) o := by rw [G1.1]; exact H5.1
    have T7 : TR (top h') o := by rw [G2.1]; exact T6
    have f15 : gfI g6 o 12 15 = some (J (leF B L s (lsI B L s (nlF B L s)))) := by rw [gfI_ok T6.tag]; exact congrArg (fun z => some (J z)) (by show hE g6 o 15 = _; rw [G1.e (by omega), w])
    rw [fe]
    refine ⟨h', ?_, (F05.mono (fun b k q => Or.inl q)).trans ((G1.mono (fun b k q => Or.inr (Or.inl q))).trans (G2.mono (fun b k q => Or.inr (Or.inr q)))), ⟨1, _, v1, v2, by omega, fun q => by omega, fun _ => by omega⟩, fun q => by omega⟩
    rw [hd, decide_eq_false (by omega)]
    have q3 : alI h' (o + 3) (J 0) = some (J 1) := by rw [alI_ok T7.a3 (by omega) (by omega) (by omega), v1]
    simp (disch := omega) only [j_X12_readText_59, j_X12_readText_91, j_X12_readText_106, H5.1.r3, a1, T6.r4, f15, a2, T7.r3, q3, zb0, lm8, lm2, lm1, l0, l1, l2, l3, l4, l5, l6, l7, l8, l9, l10, l11, l12, l13, l14, l15, l16, l17, l18, l19, l20, l21, l22, l23, l24, l25, l27, l31, l32, l40, l46, l48, l50, l57, l59, l63, l86, l96, l97, l100, l110, l114, l122, l127, l200, l255, l300, l319, l320, l340, l441, l456, l580, l600, l800, l886, l1206, l1526, J_add, J_sub, J_mul, J_neg, J_lt, J_le, J_eq, jT, jF, iT, iF, eT, eF, aT, aF, ite_true, ite_false, ite_not, bs]
    rfl
  · rw [if_neg c1] at hd fe
    obtain ⟨E5, D5⟩ := d5 c1
    obtain ⟨z, p, hz, hp, zr, e0, e1_⟩ := E5
    have pr := hE_rg g5 o 17
    rw [hp] at pr
    have f16 : gfI g5 o 12 16 = some (J z) := by rw [H5.fI]; exact congrArg (fun z => some (J z)) hz
    obtain ⟨g6, h', a1, G1, a2, G2, v1, v2⟩ := put z (if z = 0 then -1 else p) (by omega) (by omega) (by split <;> omega) (by split <;> omega)
    have T6 : TR (top g6) o := by rw [G1.1]; exact H5.1
    have T7 : TR (top h') o := by rw [G2.1]; exact T6
    have f16' : gfI g6 o 12 16 = some (J z) := by rw [gfI_ok T6.tag]; exact congrArg (fun z => some (J z)) (by show hE g6 o 16 = _; rw [G1.e (by omega), hz])
    have f17' : gfI g6 o 12 17 = some (J p) := by rw [gfI_ok T6.tag]; exact congrArg (fun z => some (J z)) (by show hE g6 o 17 = _; rw [G1.e (by omega), hp])
    have q3 : alI h' (o + 3) (J 0) = some (J z) := by rw [alI_ok T7.a3 (by omega) (by omega) (by omega), v1]
    rw [fe]
    refine ⟨h', ?_, (F05.mono (fun b k q => Or.inl q)).trans ((G1.mono (fun b k q => Or.inr (Or.inl q))).trans (G2.mono (fun b k q => Or.inr (Or.inr q)))), ⟨z, _, v1, v2, zr, fun q => ?_, fun q => ?_⟩, fun q => ?_⟩
    · by_cases c : z = 0
      · have := e0 c
        rw [hd, decide_eq_true this]
        rw [if_pos c] at a2
        rw [c] at f16 f16' q3 a1
        simp (disch := omega) only [j_X12_readText_59, j_X12_readText_91, j_X12_readText_106, H5.1.r3, f16, a1, T6.r4, f16', a2, T7.r3, q3, zb1, lm8, lm2, lm1, l0, l1, l2, l3, l4, l5, l6, l7, l8, l9, l10, l11, l12, l13, l14, l15, l16, l17, l18, l19, l20, l21, l22, l23, l24, l25, l27, l31, l32, l40, l46, l48, l50, l57, l59, l63, l86, l96, l97, l100, l110, l114, l122, l127, l200, l255, l300, l319, l320, l340, l441, l456, l580, l600, l800, l886, l1206, l1526, J_add, J_sub, J_mul, J_neg, J_lt, J_le, J_eq, jT, jF, iT, iF, eT, eF, aT, aF, ite_true, ite_false, ite_not, bs]
        rfl
      · have := e1_ c
        rw [hd, decide_eq_false (by omega)]
        rw [if_neg c] at a2
        have zp : z < 0 ∨ 0 < z := by omega
        simp (disch := first | omega | exact zp) only [j_X12_readText_59, j_X12_readText_91, j_X12_readText_106, H5.1.r3, f16, a1, T6.r4, f16', f17', a2, T7.r3, q3, zb0, lm8, lm2, lm1, l0, l1, l2, l3, l4, l5, l6, l7, l8, l9, l10, l11, l12, l13, l14, l15, l16, l17, l18, l19, l20, l21, l22, l23, l24, l25, l27, l31, l32, l40, l46, l48, l50, l57, l59, l63, l86, l96, l97, l100, l110, l114, l122, l127, l200, l255, l300, l319, l320, l340, l441, l456, l580, l600, l800, l886, l1206, l1526, J_add, J_sub, J_mul, J_neg, J_lt, J_le, J_eq, jT, jF, iT, iF, eT, eF, aT, aF, ite_true, ite_false, ite_not, bs]
        rfl
    · rw [if_pos q]
      exact ⟨rfl, e0 q⟩
    · rw [if_neg q]
      exact e1_ q
    · have D6 := hD _ _ _ _ _ (hD _ _ _ _ _ D5 G1 (fun k => by omega)) G2 (fun k => by omega)
      rw [q] at D6
      exact D6
end RTx
