/-! PURE PART: a text taken, the class -/
abbrev tyQ (B : Int → Int) (L : Int) (n : Nat) : Int × (Int → Int) := tyN (elQ B L) (fun Q f k _ => stpQ B L Q f k) B L 1 n
abbrev tyU (B : Int → Int) (L : Int) (n : Nat) : Int × (Int → Int) := tyN (elU B L) (fun U f k _ => stpU B L U f k) B L 2 n
/-- the fault of a text: the first word or token with which none goes on, or that of its lines -/
def feT (B : Int → Int) (L s : Int) (E : Int) : Int := if loF B L s (lsI B L s (nlF B L s)) = 1 then 8 * leF B L s (lsI B L s (nlF B L s)) + 1 else E
def Atk (r a b k : Nat) : Prop := (r ≤ b ∧ b ≤ r + 22) ∨ ATk a b k
section TKR
variable {h : Hp} {r a o : Nat} {B : Int → Int} {L s : Int} {el : (Int → Int) → Int → Int → Int} {stp : (Int → Int) → Int → Int → Int → Int → Int}
theorem QW_0 : QW (fun _ => 0) := ⟨(show (0 : Int) ≤ 0 ∧ (0 : Int) ≤ 8 by omega), fun k k0 k1 => absurd k1 (by show ¬ k < (0 : Int); omega)⟩
theorem HW_0 : HWf (fun _ => 0) := ⟨(show (0 : Int) ≤ 0 ∧ (0 : Int) ≤ 8 by omega), fun k k0 k1 => absurd k1 (by show ¬ k < (0 : Int); omega)⟩
theorem X0_clear_ok (T : TA (top h) o) : ∃ h', m_X0_clear o h = some h' ∧ FR (fun b k => (b = o ∧ k ≤ 2) ∨ b = o + 1) h h' ∧ CA h' o (fun _ => 0) ∧ DA h' o (fun _ => 0) := by
  have w : ∀ (g : Hp) (c : Nat), TA (top g) o → c ≤ 2 → pfI g o 1 c (J 0) = some (wE g o c 0) ∧ FR (fun b k => (b = o ∧ k ≤ 2) ∨ b = o + 1) g (wE g o c 0) ∧ TA (top (wE g o c 0)) o := fun g c Tg hc => ⟨pfI_ok Tg.1, FR.wE (A := fun b k => (b = o ∧ k ≤ 2) ∨ b = o + 1) (Or.inl ⟨rfl, by omega⟩), Tg⟩
  obtain ⟨p1, F1, T1⟩ := w h 0 T (by omega)
  have z1 : ∀ b j, 0 ≤ j → hE (wE h o ((0 : Nat) : Int) 0) b j = if b = o ∧ j = 0 then 0 else hE h b j := fun b j j0 => hE_wE (by omega) j0 (by omega) (by omega)
  generalize wE h o ((0 : Nat) : Int) 0 = g1 at *
  obtain ⟨p2, F2, T2⟩ := w g1 1 T1 (by omega)
  have z2 : ∀ b j, 0 ≤ j → hE (wE g1 o ((1 : Nat) : Int) 0) b j = if b = o ∧ j = 1 then 0 else hE g1 b j := fun b j j0 => hE_wE (by omega) j0 (by omega) (by omega)
  generalize wE g1 o ((1 : Nat) : Int) 0 = g2 at *
  obtain ⟨p3, F3, T3⟩ := w g2 2 T2 (by omega)
  have z3 : ∀ b j, 0 ≤ j → hE (wE g2 o ((2 : Nat) : Int) 0) b j = if b = o ∧ j = 2 then 0 else hE g2 b j := fun b j j0 => hE_wE (by omega) j0 (by omega) (by omega)
  generalize wE g2 o ((2 : Nat) : Int) 0 = g3 at *
  obtain ⟨s, ⟨g, rfl, F, cz⟩, el_⟩ := loop_ex (body := fun (k : Int32 × Hp → Option Hp) (s : Int32 × Hp) => b_X0_clear_17 o (fun v1q hq => k (v1q, hq)) s.1 s.2) (s := (J 0, g3)) (fun i s => ∃ g, s = (J i, g) ∧ FR (fun b k => b = o + 1) g3 g ∧ ∀ d, 0 ≤ d → d < i → hE g (o + 1) d = 0) (fun s => some s.2) 4 (by omega) (by omega) ⟨g3, rfl, FR.refl _ _, fun d d0 d1 => by omega⟩ (by
    rintro k_ i s i0 i1 ⟨g, rfl, F, cz⟩
    have Tg : TA (top g) o := by rw [F.1]; exact T3
    have s1 : m_X5_set (o + 1) (J i) (J 0) g = some (wE g (o + 1) i 0) := X5_set_ok Tg.a3 i0 (by omega) (by omega)
    refine ⟨(J (i + 1), wE g (o + 1) i 0), ⟨_, rfl, F.trans (FR.wE (A := fun b k => b = o + 1) rfl), fun d d0 d1 => ?_⟩, ?_⟩
    · rw [hE_wE i0 d0 (by omega) (by omega)]
      by_cases q : d = i
      · rw [if_pos ⟨rfl, q⟩]
      · rw [if_neg (fun y => q y.2), cz d d0 (by omega)]
    · show b_X0_clear_17 o (fun v1q hq => k_ (v1q, hq)) (J i) g = _
      simp (disch := omega) only [b_X0_clear_17, Tg.r3, s1, lm8, lm2, lm1, l0, l1, l2, l3, l4, l5, l6, l7, l8, l9, l10, l11, l12, l13, l14, l15, l16, l17, l18, l19, l20, l21, l22, l23, l24, l25, l27, l31, l32, l40, l46, l48, l50, l57, l59, l63, l86, l96, l97, l100, l110, l114, l122, l127, l200, l255, l300, l319, l320, l340, l441, l456, l580, l600, l800, l886, l1206, l1526, J_add, J_sub, J_mul, J_neg, J_lt, J_le, J_eq, jT, jF, iT, iF, eT, eF, aT, aF, ite_true, ite_false, ite_not, bs]) (by
    rintro k_ s ⟨g, rfl, -⟩
    show b_X0_clear_17 o (fun v1q hq => k_ (v1q, hq)) (J 4) g = _
    simp (disch := omega) only [b_X0_clear_17, lm8, lm2, lm1, l0, l1, l2, l3, l4, l5, l6, l7, l8, l9, l10, l11, l12, l13, l14, l15, l16, l17, l18, l19, l20, l21, l22, l23, l24, l25, l27, l31, l32, l40, l46, l48, l50, l57, l59, l63, l86, l96, l97, l100, l110, l114, l122, l127, l200, l255, l300, l319, l320, l340, l441, l456, l580, l600, l800, l886, l1206, l1526, J_add, J_sub, J_mul, J_neg, J_lt, J_le, J_eq, jT, jF, iT, iF, eT, eF, aT, aF, ite_true, ite_false, ite_not, bs])
  have el2 : l_X0_clear_17 o (J 0) g3 = some g := el_
  have F03 := (F1.trans F2).trans F3
  have Tg : TA (top g) o := by rw [F.1]; exact T3
  refine ⟨g, ?_, F03.trans (F.mono (fun b k q => Or.inr q)), ⟨Tg, AW_0, ?_, ?_, fun d d0 d1 => cz d d0 d1, fun d v hv => ?_, fun d v q hv => ?_, fun t t0 t1 => absurd t1 (by show ¬ t < (0 : Int); omega)⟩, DW_0, fun d v hv => ?_⟩
  · have p1 : pfI h o 1 0 (J 0) = some g1 := p1
    have p2 : pfI g1 o 1 1 (J 0) = some g2 := p2
    have p3 : pfI g2 o 1 2 (J 0) = some g3 := p3
    unfold m_X0_clear
    rw [show (0 : Int32) = J 0 from rfl, p1, bs, p2, bs, p3, bs]
    exact el2
  · rw [F.e (by omega), z3 _ _ (by omega), if_neg (by omega), z2 _ _ (by omega), if_neg (by omega), z1 _ _ (by omega), if_pos ⟨rfl, rfl⟩]
  · rw [F.e (by omega), z3 _ _ (by omega), if_neg (by omega), z2 _ _ (by omega), if_pos ⟨rfl, rfl⟩]
  · have : d < (0 : Int) := hv.2.1
    have := hv.1
    omega
  · have : d < (0 : Int) := hv.1.2.1
    have := hv.1.1
    omega
  · have : d < (0 : Int) := hv.2.1
    have := hv.1
    omega
/-- any sort: ahead, the walks, behind -/
theorem X7_take_ok (C : Hp → (Int → Int) → Prop) (A : Nat → Nat → Prop) (hC : ∀ g g' T, C g T → FR (ARf r a) g g' → C g' T) (hA : ∀ b k, A b k → r ≤ b ∧ b ≤ r + 22) (nA : ¬ A r 4 ∧ ¬ A r 5) (hCA : ∀ g T, C g T → ∃ T', CA g (r + 6) T') (R : TRd (top h) r) (H : CT h a B L) (hal : a + 1 < r ∨ r + 22 < a) (s0 : 0 ≤ s) (s1 : s ≤ 2)
    (c0 : ∀ g, FR (fun b _ => r ≤ b ∧ b ≤ r + 22) h g → CA g (r + 6) (fun _ => 0) → DA g (r + 6) (fun _ => 0) → QA g (r + 16) (fun _ => 0) → HA g (r + 21) (fun _ => 0) → C g (fun _ => 0))
    (hstep : ∀ (g : Hp) (n : Nat), (n : Int) < nlF B L s → (tyN el stp B L s n).1 = 9999 → C g (tyN el stp B L s n).2 → TRd (top g) r → LnP g (r + 1) B L (lsN B L s n) (liK B L s (lsN B L s n)) → LnW B L (lsN B L s n) (liK B L s (lsN B L s n)) → ENc g r 9999 → ∃ x g', m_X7_noteWhatCanNotBe r g = some x ∧ FR (Afc r) g x ∧ (if s = 0 then m_X7_takeVersion r (J (n : Int)) x else if s = 1 then m_X7_takeQuestion r x else m_X7_takeFact r x) = some g' ∧ FR (ARA r a A) g g' ∧ hE g' a 4 = hE g a 4 ∧ ENc g' r (tyN el stp B L s (n + 1)).1 ∧ C g' (tyN el stp B L s (n + 1)).2) :
    ∃ g T' h', m_X7_take r a (J s) h = some h' ∧ FR (Atk r a) h g ∧ CA g (r + 6) T' ∧ m_X0_listWords (r + 6) g = some h' ∧ FR (AWd (r + 6)) g h' ∧ CW h' (r + 6) T' ∧ ENc h' r (feT B L s (tyN el stp B L s (nlF B L s).toNat).1) ∧ (feT B L s (tyN el stp B L s (nlF B L s).toNat).1 = 9999 → C g (tyN el stp B L s (nlF B L s).toNat).2) := by
  have hL := H.2.1
  have all : ∀ g, FR (fun b _ => r ≤ b ∧ b ≤ r + 22) h g → TRd (top g) r ∧ CT g a B L := fun g F => ⟨R.fr F, H.frame F (by omega) (fun k => by omega)⟩
  have p1 : pfI h r 7 4 (J 0) = some (wE h r 4 0) := pfI_ok R.tag
  have F1 : FR (fun b _ => r ≤ b ∧ b ≤ r + 22) h (wE h r 4 0) := FR.wE (A := fun b _ => r ≤ b ∧ b ≤ r + 22) ⟨by omega, by omega⟩
  have z1 : hE (wE h r 4 0) r 4 = 0 := by rw [hE_wE (by omega) (by omega) (by omega) (by omega), if_pos ⟨rfl, rfl⟩]
  generalize wE h r 4 0 = g1 at *
  obtain ⟨R1, H1⟩ := all g1 F1
  have p2 : pfI g1 r 7 5 (J (-1)) = some (wE g1 r 5 (-1)) := pfI_ok R1.tag
  have F2 : FR (fun b k => b = r ∧ k = 5) g1 (wE g1 r 5 (-1)) := FR.wE (A := fun b k => b = r ∧ k = 5) ⟨rfl, rfl⟩
  have z2 : hE (wE g1 r 5 (-1)) r 5 = -1 := by rw [hE_wE (by omega) (by omega) (by omega) (by omega), if_pos ⟨rfl, rfl⟩]
  generalize wE g1 r 5 (-1) = g2 at *
  have F02 := F1.trans (F2.mono (fun b k q => (⟨by omega, by omega⟩ : r ≤ b ∧ b ≤ r + 22)))
  obtain ⟨R2, H2⟩ := all g2 F02
  obtain ⟨g3, e3, F3, C3, D3⟩ := X0_clear_ok R2.2.2.1.2
  have F03 := F02.trans (F3.mono (fun b k q => (⟨by omega, by omega⟩ : r ≤ b ∧ b ≤ r + 22)))
  obtain ⟨R3, H3⟩ := all g3 F03
  have p4 : pfI g3 (r + 16) 6 0 (J 0) = some (wE g3 (r + 16) 0 0) := pfI_ok R3.2.2.2.1.2.1
  have F4 : FR (fun b k => b = r + 16 ∧ k = 0) g3 (wE g3 (r + 16) 0 0) := FR.wE (A := fun b k => b = r + 16 ∧ k = 0) ⟨rfl, rfl⟩
  have z4 : hE (wE g3 (r + 16) 0 0) (r + 16) 0 = 0 := by rw [hE_wE (by omega) (by omega) (by omega) (by omega), if_pos ⟨rfl, rfl⟩]
  generalize wE g3 (r + 16) 0 0 = g4 at *
  have F04 := F03.trans (F4.mono (fun b k q => (⟨by omega, by omega⟩ : r ≤ b ∧ b ≤ r + 22)))
  obtain ⟨R4, H4⟩ := all g4 F04
  have p5 : pfI g4 (r + 21) 4 0 (J 0) = some (wE g4 (r + 21) 0 0) := pfI_ok R4.2.2.2.2.2.1
  have F5 : FR (fun b k => b = r + 21 ∧ k = 0) g4 (wE g4 (r + 21) 0 0) := FR.wE (A := fun b k => b = r + 21 ∧ k = 0) ⟨rfl, rfl⟩
  have z5 : hE (wE g4 (r + 21) 0 0) (r + 21) 0 = 0 := by rw [hE_wE (by omega) (by omega) (by omega) (by omega), if_pos ⟨rfl, rfl⟩]
  generalize wE g4 (r + 21) 0 0 = g5 at *
  have F05 := F04.trans (F5.mono (fun b k q => (⟨by omega, by omega⟩ : r ≤ b ∧ b ≤ r + 22)))
  obtain ⟨R5, H5⟩ := all g5 F05
  have F35 : FR (fun b k => (b = r + 16 ∨ b = r + 21) ∧ k = 0) g3 g5 := (F4.mono (fun b k q => ⟨Or.inl q.1, q.2⟩)).trans (F5.mono (fun b k q => ⟨Or.inr q.1, q.2⟩))
  have CA5 : CA g5 (r + 6) (fun _ => 0) := by
    refine C3.frame F35 ?_ ?_ (fun k => ?_) (fun k => ?_) (fun k => ?_) (fun k => ?_) (fun k => ?_) (fun k => ?_) <;> omega
  have DA5 : DA g5 (r + 6) (fun _ => 0) := ⟨D3.1, fun d v hv => by rw [F35.e (by omega), D3.2 d v hv]⟩
  have QA5 : QA g5 (r + 16) (fun _ => 0) := ⟨R5.2.2.2.1.2, QW_0, by rw [F5.e (by omega), z4], fun k k0 k1 => absurd k1 (by show ¬ k < (0 : Int); omega)⟩
  have HA5 : HA g5 (r + 21) (fun _ => 0) := ⟨R5.2.2.2.2.2, HW_0, z5, fun i i0 i1 => absurd i1 (by show ¬ i < 3 * (0 : Int); omega)⟩
  have C5 := c0 g5 F05 CA5 DA5 QA5 HA5
  have E5 : ENc g5 r 9999 := by
    refine ⟨0, -1, ?_, ?_, by omega, fun _ => ⟨rfl, rfl⟩, fun q => absurd rfl q⟩
    · rw [F35.e (by omega), F3.e (by omega), F2.e (by omega), z1]
    · rw [F35.e (by omega), F3.e (by omega), z2]
  obtain ⟨g6, e6, F6, E6⟩ := X7_noteNoText_ok R5 H5 hal s0 s1 E5
  have R6 := R5.fr F6
  have H6 := H5.frf hal F6
  obtain ⟨g7, e7, F7, z7⟩ := H6.rewind
  have F7' : FR (ARf r a) g6 g7 := F7.mono (fun b k q => Or.inl (Or.inr (Or.inr q)))
  have R7 := R6.fr F7
  have H7 := H6.frf hal F7'
  have E7 := E6.frame F7 (by unfold ATk; omega) (by unfold ATk; omega)
  have C7 := hC _ _ _ (hC _ _ _ C5 F6) F7'
  have hd : m_X7_take r a (J s) h = l_X7_take_45 r a (J s) (fun hz7 => j_X7_take_72 r hz7) (fun hz8 => j_X7_take_113 r hz8) (J 0) g7 := by
    have t6 : hTag g3 (r + 16) = 6 := R3.2.2.2.1.2.1
    unfold m_X7_take
    rw [show (-1 : Int32) = J (-1) from rfl, show (0 : Int32) = J 0 from rfl, p1, bs, p2, bs, R2.r1, bs, rc_ok R2.2.2.1.2.1, e3, bs, R3.r2, bs, p4, bs, R4.r3, bs, p5, bs, rc_ok R5.tag, e6, bs, rc_ok H6.tag, e7, bs]
  have arf : ∀ b k, ARf r a b k → Atk r a b k := fun b k q => by
    unfold ARf ARd Afc at q
    unfold Atk
    unfold ATk at *
    omega
  have F07 : FR (Atk r a) h g7 := ((F05.mono (fun b k q => Or.inl q)).trans (F6.mono arf)).trans (F7'.mono arf)
  -- behind: the words listed
  have fin : ∀ g T E, l_X7_take_45 r a (J s) (fun hz7 => j_X7_take_72 r hz7) (fun hz8 => j_X7_take_113 r hz8) (J 0) g7 = j_X7_take_113 r g → FR (Atk r a) g7 g → ENc g r E → C g T → feT B L s (tyN el stp B L s (nlF B L s).toNat).1 = E → (E = 9999 → T = (tyN el stp B L s (nlF B L s).toNat).2) → ∃ g T' h', m_X7_take r a (J s) h = some h' ∧ FR (Atk r a) h g ∧ CA g (r + 6) T' ∧ m_X0_listWords (r + 6) g = some h' ∧ FR (AWd (r + 6)) g h' ∧ CW h' (r + 6) T' ∧ ENc h' r (feT B L s (tyN el stp B L s (nlF B L s).toNat).1) ∧ (feT B L s (tyN el stp B L s (nlF B L s).toNat).1 = 9999 → C g (tyN el stp B L s (nlF B L s).toNat).2) := fun g T E hl F Eg Cg hE hT => by
    obtain ⟨T', CAg⟩ := hCA g T Cg
    have Rg := R7.fr F
    obtain ⟨h', e9, F9, W9⟩ := CAg.listWords
    refine ⟨g, T', h', ?_, F07.trans F, CAg, e9, F9, W9, ?_, fun q => ?_⟩
    · rw [hd, hl]
      unfold j_X7_take_113
      rw [Rg.r1, bs, rc_ok CAg.tag, e9, bs]
    · rw [hE]
      exact Eg.frame F9 (by unfold AWd; omega) (by unfold AWd; omega)
    · rw [hE] at q
      rw [← hT q]
      exact Cg
  have fe : feT B L s (tyN el stp B L s (nlF B L s).toNat).1 = if loF B L s (lsI B L s (nlF B L s)) = 1 then 8 * leF B L s (lsI B L s (nlF B L s)) + 1 else (tyN el stp B L s (nlF B L s).toNat).1 := rfl
  by_cases c1 : loF B L s (lsI B L s (nlF B L s)) = 1
  · rw [if_pos c1] at E7 fe
    have r_ := ls_rg (B := B) (s := s) hL.1 hL.2.1 (nlF B L s).toNat
    have lr := le_rg (B := B) (s := s) (f := lsI B L s (nlF B L s)) r_.1 r_.2 hL.2.1
    have h6 := hL.2.1
    obtain ⟨z, q1, q2, q3⟩ := E7.is R7.tag
    have hz : z < 0 ∨ 0 < z := by
      have : z ≠ 0 := fun y => by
        have := q3.mp y
        omega
      omega
    refine fin g7 (fun _ => 0) _ ?_ (FR.refl _ _) E7 C7 fe (fun q => by
      exfalso
      omega)
    unfold l_X7_take_45
    refine loop_stop (fun k_ => ?_)
    show b_X7_take_45 r a (J s) (fun hz7 => j_X7_take_72 r hz7) (fun hz8 => j_X7_take_113 r hz8) (fun v3q hq => k_ (v3q, hq)) (J 0) g7 = _
    simp (disch := first | omega | exact hz) only [b_X7_take_45, q1, lm8, lm2, lm1, l0, l1, l2, l3, l4, l5, l6, l7, l8, l9, l10, l11, l12, l13, l14, l15, l16, l17, l18, l19, l20, l21, l22, l23, l24, l25, l27, l31, l32, l40, l46, l48, l50, l57, l59, l63, l86, l96, l97, l100, l110, l114, l122, l127, l200, l255, l300, l319, l320, l340, l441, l456, l580, l600, l800, l886, l1206, l1526, J_add, J_sub, J_mul, J_neg, J_lt, J_le, J_eq, jT, jF, iT, iF, eT, eF, aT, aF, ite_true, ite_false, ite_not, bs]
  · rw [if_neg c1] at E7 fe
    have aa : ∀ k, ¬ A a k := fun k q => by
      have := hA _ _ q
      omega
    have aa1 : ∀ k, ¬ A (a + 1) k := fun k q => by
      have := hA _ _ q
      omega
    obtain ⟨g8, e8, F8, E8, C8⟩ := takeLoop (el := el) (stp := stp) C A hC (aa 1) (aa 4) aa1 R7 H7 hal s0 s1 E7 C7 ⟨0, z7, by omega, hL.1, rfl⟩ hstep
    refine fin g8 _ _ e8 (F8.mono (fun b k q => ?_)) E8 C8 fe (fun _ => rfl)
    rcases q with q | q
    · exact arf b k q
    · exact Or.inl (hA b k q)
end TKR
