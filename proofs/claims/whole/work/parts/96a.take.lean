/-! PURE PART: the class's second walk, for any sort -/
def ARA (r a : Nat) (A : Nat → Nat → Prop) (b k : Nat) : Prop := ARf r a b k ∨ A b k
section TK
variable {h : Hp} {r a : Nat} {B : Int → Int} {L s : Int} {el : (Int → Int) → Int → Int → Int} {stp : (Int → Int) → Int → Int → Int → Int → Int}
theorem ty_const {n : Nat} (h : (tyN el stp B L s n).1 ≠ 9999) : ∀ m : Nat, tyN el stp B L s (n + m) = tyN el stp B L s n
  | 0 => rfl
  | m + 1 => by
    have ih := ty_const h m
    show (if (tyN el stp B L s (n + m)).1 = 9999 then _ else tyN el stp B L s (n + m)) = _
    rw [ih, if_neg h]
theorem ty_le {n m : Nat} (h : (tyN el stp B L s n).1 ≠ 9999) (nm : n ≤ m) : tyN el stp B L s m = tyN el stp B L s n := by
  rw [show m = n + (m - n) by omega]
  exact ty_const h _
theorem takeLoop (C : Hp → (Int → Int) → Prop) (A : Nat → Nat → Prop) (hC : ∀ g g' T, C g T → FR (ARf r a) g g' → C g' T) (a1 : ¬ A a 1) (a4 : ¬ A a 4) (aB : ∀ k, ¬ A (a + 1) k) (R : TRd (top h) r) (H : CT h a B L) (hal : a + 1 < r ∨ r + 22 < a) (s0 : 0 ≤ s) (s1 : s ≤ 2) (E : ENc h r 9999) (c0 : C h (fun _ => 0)) (t0 : TPa h a B L (lsI B L s 0))
    (hstep : ∀ (g : Hp) (n : Nat), (n : Int) < nlF B L s → (tyN el stp B L s n).1 = 9999 → C g (tyN el stp B L s n).2 → TRd (top g) r → LnP g (r + 1) B L (lsN B L s n) (liK B L s (lsN B L s n)) → LnW B L (lsN B L s n) (liK B L s (lsN B L s n)) → ENc g r 9999 → ∃ x g', m_X7_noteWhatCanNotBe r g = some x ∧ FR (Afc r) g x ∧ (if s = 0 then m_X7_takeVersion r (J (n : Int)) x else if s = 1 then m_X7_takeQuestion r x else m_X7_takeFact r x) = some g' ∧ FR (ARA r a A) g g' ∧ hE g' a 4 = hE g a 4 ∧ ENc g' r (tyN el stp B L s (n + 1)).1 ∧ C g' (tyN el stp B L s (n + 1)).2) :
    ∃ h', l_X7_take_45 r a (J s) (fun hz7 => j_X7_take_72 r hz7) (fun hz8 => j_X7_take_113 r hz8) (J 0) h = j_X7_take_113 r h' ∧ FR (ARA r a A) h h' ∧ ENc h' r (tyN el stp B L s (nlF B L s).toNat).1 ∧ C h' (tyN el stp B L s (nlF B L s).toNat).2 := by
  have hL := H.2.1
  obtain ⟨n0, n1, n2, n3⟩ := nl_spec (B := B) (s := s) hL.1 hL.2.1
  have lr : ∀ i : Int, 0 ≤ lsI B L s i ∧ lsI B L s i ≤ L := fun i => ls_rg hL.1 hL.2.1 _
  have ctf : ∀ g, FR (ARA r a A) h g → CT g a B L := fun g F => H.frame F (by
    rintro (q | q)
    · unfold ARf ARd ATk Afc at q; omega
    · exact a1 q) (fun k => by
    rintro (q | q)
    · unfold ARf ARd ATk Afc at q; omega
    · exact aB k q)
  generalize hn : nlF B L s = n at *
  obtain ⟨N, hN⟩ : ∃ N : Int, N = if fiZ n (fun i => decide ((tyN el stp B L s (i.toNat + 1)).1 ≠ 9999)) = -1 then n else fiZ n (fun i => decide ((tyN el stp B L s (i.toNat + 1)).1 ≠ 9999)) + 1 := ⟨_, rfl⟩
  have N0 : 0 ≤ N ∧ N ≤ n := by
    rcases fiZ_spec n (fun i => decide ((tyN el stp B L s (i.toNat + 1)).1 ≠ 9999)) with ⟨e1, e2⟩ | ⟨e1, e2, e3, e4⟩
    · rw [if_pos e1] at hN
      omega
    · rw [if_neg (by omega)] at hN
      omega
  have Nl : ∀ i : Nat, (i : Int) < N → (tyN el stp B L s i).1 = 9999 := fun i hi => by
    match i with
    | 0 => rfl
    | i + 1 =>
      rcases fiZ_spec n (fun i => decide ((tyN el stp B L s (i.toNat + 1)).1 ≠ 9999)) with ⟨e1, e2⟩ | ⟨e1, e2, e3, e4⟩
      · have := e2 (i : Int) (by omega) (by omega)
        simp only [Int.toNat_natCast] at this
        have := of_decide_eq_false this
        omega
      · rw [if_neg (by omega)] at hN
        have := e4 (i : Int) (by omega) (by omega)
        simp only [Int.toNat_natCast] at this
        have := of_decide_eq_false this
        omega
  have Nf : N = n ∨ (tyN el stp B L s N.toNat).1 ≠ 9999 := by
    rcases fiZ_spec n (fun i => decide ((tyN el stp B L s (i.toNat + 1)).1 ≠ 9999)) with ⟨e1, e2⟩ | ⟨e1, e2, e3, e4⟩
    · rw [if_pos e1] at hN
      exact Or.inl hN
    · rw [if_neg (by omega)] at hN
      refine Or.inr ?_
      rw [hN, show (fiZ n (fun i => decide ((tyN el stp B L s (i.toNat + 1)).1 ≠ 9999)) + 1).toNat = (fiZ n (fun i => decide ((tyN el stp B L s (i.toNat + 1)).1 ≠ 9999))).toNat + 1 by omega]
      exact of_decide_eq_true e3
  have last : tyN el stp B L s n.toNat = tyN el stp B L s N.toNat := by
    rcases Nf with q | q
    · rw [q]
    · exact ty_le q (by omega)
  obtain ⟨s', ⟨g, rfl, F, t, G, c⟩, el_⟩ := loop_ex (body := fun (k_ : Int32 × Hp → Option Hp) (s_ : Int32 × Hp) => b_X7_take_45 r a (J s) (fun hz7 => j_X7_take_72 r hz7) (fun hz8 => j_X7_take_113 r hz8) (fun v3q hq => k_ (v3q, hq)) s_.1 s_.2) (s := (J 0, h)) (fun i s_ => ∃ g, s_ = (J i, g) ∧ FR (ARA r a A) h g ∧ TPa g a B L (lsI B L s i) ∧ ENc g r (tyN el stp B L s i.toNat).1 ∧ C g (tyN el stp B L s i.toNat).2) (fun s_ => b_X7_take_45 r a (J s) (fun hz7 => j_X7_take_72 r hz7) (fun hz8 => j_X7_take_113 r hz8) (fun _ _ => none) s_.1 s_.2) N N0.1 (by omega) ⟨h, rfl, FR.refl _ _, t0, E, c0⟩ (by
    rintro k_ i s_ i0 i1 ⟨g, rfl, F, ⟨p, p1, p2, p3, p4⟩, G, c⟩
    have R' := R.fr F
    have H' := ctf g F
    have ty := Nl i.toNat (by omega)
    have lo := n2 i i0 (by omega)
    obtain ⟨g1, e1, F1, tp1, rd⟩ := CL.read R'.2.1.2 H' (by omega) p1 p2 p3 s0 s1 p4
    obtain ⟨k0, k1, RI1⟩ := rd lo
    have lw2 := lo_2 lo (lr i).1 (lr i).2 hL.2.1
    have F1' : FR (ARf r a) g g1 := F1.mono (fun b k q => Or.inl q)
    rw [ty] at G
    have E1 : ENc g1 r 9999 := G.frame F1 (by unfold ARd ATk; omega) (by unfold ARd ATk; omega)
    have R1 := R'.fr F1
    obtain ⟨x, g2, w1, wF, w2, F2, v4, E2, C2⟩ := hstep g1 i.toNat (by omega) ty (hC _ _ _ c F1') R1 ⟨RI1.2.1, RI1.2.2.1, RI1.2.2.2.1, RI1.2.2.2.2.1⟩ lw2.1 E1
    rw [show ((i.toNat : Nat) : Int) = i by omega] at w2
    have l := le_rg (B := B) (s := s) (lr i).1 (lr i).2 hL.2.1
    have tt := to_rg (B := B) (f := leF B L s (lsI B L s i)) l.2
    have r0 := (lr i).1
    refine ⟨(J (i + 1), g2), ⟨g2, rfl, (F.trans (F1'.mono (fun b k q => Or.inl q))).trans F2, ⟨_, v4.trans tp1.2.2, by omega, tt.2.1, (lsI_succ i0).symm⟩, by rw [show (i + 1).toNat = i.toNat + 1 by omega]; exact E2, by rw [show (i + 1).toNat = i.toNat + 1 by omega]; exact C2⟩, ?_⟩
    obtain ⟨z, q1, q2, q3⟩ := G.is R'.tag
    have z0 := q3.mpr rfl
    rw [z0] at q1
    rw [lo] at e1
    have tx : hTag x r = 7 := (R1.fr wF).tag
    show b_X7_take_45 r a (J s) (fun hz7 => j_X7_take_72 r hz7) (fun hz8 => j_X7_take_113 r hz8) (fun v3q hq => k_ (v3q, hq)) (J i) g = _
    have : s = 0 ∨ s = 1 ∨ s = 2 := by omega
    rcases this with q | q | q
    · rw [q] at w2 e1 ⊢
      rw [if_pos rfl] at w2
      simp (disch := omega) only [b_X7_take_45, j_X7_take_107, q1, R'.r0, rc_ok R'.2.1.2.1, e1, rc_ok R1.tag, w1, rc_ok tx, w2, lm8, lm2, lm1, l0, l1, l2, l3, l4, l5, l6, l7, l8, l9, l10, l11, l12, l13, l14, l15, l16, l17, l18, l19, l20, l21, l22, l23, l24, l25, l27, l31, l32, l40, l46, l48, l50, l57, l59, l63, l86, l96, l97, l100, l110, l114, l122, l127, l200, l255, l300, l319, l320, l340, l441, l456, l580, l600, l800, l886, l1206, l1526, J_add, J_sub, J_mul, J_neg, J_lt, J_le, J_eq, jT, jF, iT, iF, eT, eF, aT, aF, ite_true, ite_false, ite_not, bs]
    · rw [q] at w2 e1 ⊢
      rw [if_neg (by omega), if_pos rfl] at w2
      simp (disch := omega) only [b_X7_take_45, j_X7_take_107, q1, R'.r0, rc_ok R'.2.1.2.1, e1, rc_ok R1.tag, w1, rc_ok tx, w2, lm8, lm2, lm1, l0, l1, l2, l3, l4, l5, l6, l7, l8, l9, l10, l11, l12, l13, l14, l15, l16, l17, l18, l19, l20, l21, l22, l23, l24, l25, l27, l31, l32, l40, l46, l48, l50, l57, l59, l63, l86, l96, l97, l100, l110, l114, l122, l127, l200, l255, l300, l319, l320, l340, l441, l456, l580, l600, l800, l886, l1206, l1526, J_add, J_sub, J_mul, J_neg, J_lt, J_le, J_eq, jT, jF, iT, iF, eT, eF, aT, aF, ite_true, ite_false, ite_not, bs]
    · rw [q] at w2 e1 ⊢
      rw [if_neg (by omega), if_neg (by omega)] at w2
      simp (disch := omega) only [b_X7_take_45, j_X7_take_107, q1, R'.r0, rc_ok R'.2.1.2.1, e1, rc_ok R1.tag, w1, rc_ok tx, w2, lm8, lm2, lm1, l0, l1, l2, l3, l4, l5, l6, l7, l8, l9, l10, l11, l12, l13, l14, l15, l16, l17, l18, l19, l20, l21, l22, l23, l24, l25, l27, l31, l32, l40, l46, l48, l50, l57, l59, l63, l86, l96, l97, l100, l110, l114, l122, l127, l200, l255, l300, l319, l320, l340, l441, l456, l580, l600, l800, l886, l1206, l1526, J_add, J_sub, J_mul, J_neg, J_lt, J_le, J_eq, jT, jF, iT, iF, eT, eF, aT, aF, ite_true, ite_false, ite_not, bs]) (by
    rintro k_ s_ ⟨g, rfl, F, ⟨p, p1, p2, p3, p4⟩, G, c⟩
    have R' := R.fr F
    have H' := ctf g F
    obtain ⟨z, q1, q2, q3⟩ := G.is R'.tag
    show b_X7_take_45 r a (J s) (fun hz7 => j_X7_take_72 r hz7) (fun hz8 => j_X7_take_113 r hz8) (fun v3q hq => k_ (v3q, hq)) (J N) g = b_X7_take_45 r a (J s) (fun hz7 => j_X7_take_72 r hz7) (fun hz8 => j_X7_take_113 r hz8) (fun _ _ => none) (J N) g
    by_cases c6 : 600 ≤ N
    · simp (disch := omega) only [b_X7_take_45, lm8, lm2, lm1, l0, l1, l2, l3, l4, l5, l6, l7, l8, l9, l10, l11, l12, l13, l14, l15, l16, l17, l18, l19, l20, l21, l22, l23, l24, l25, l27, l31, l32, l40, l46, l48, l50, l57, l59, l63, l86, l96, l97, l100, l110, l114, l122, l127, l200, l255, l300, l319, l320, l340, l441, l456, l580, l600, l800, l886, l1206, l1526, J_add, J_sub, J_mul, J_neg, J_lt, J_le, J_eq, jT, jF, iT, iF, eT, eF, aT, aF, ite_true, ite_false, ite_not, bs]
    · by_cases cz : z = 0
      · rw [cz] at q1
        have nN : N = n := by
          rcases Nf with q | q
          · exact q
          · exact absurd (q3.mp cz) q
        obtain ⟨g1, e1, F1, tp1, rd⟩ := CL.read R'.2.1.2 H' (by omega) p1 p2 p3 s0 s1 p4
        have lo := lo_rg (B := B) (L := L) (s := s) (f := lsI B L s N)
        rw [nN] at lo e1 ⊢
        have n3' : loF B L s (lsI B L s n) < 2 ∨ 2 < loF B L s (lsI B L s n) := by omega
        rw [nN] at c6
        simp (disch := first | omega | exact n3') only [b_X7_take_45, q1, R'.r0, rc_ok R'.2.1.2.1, e1, lm8, lm2, lm1, l0, l1, l2, l3, l4, l5, l6, l7, l8, l9, l10, l11, l12, l13, l14, l15, l16, l17, l18, l19, l20, l21, l22, l23, l24, l25, l27, l31, l32, l40, l46, l48, l50, l57, l59, l63, l86, l96, l97, l100, l110, l114, l122, l127, l200, l255, l300, l319, l320, l340, l441, l456, l580, l600, l800, l886, l1206, l1526, J_add, J_sub, J_mul, J_neg, J_lt, J_le, J_eq, jT, jF, iT, iF, eT, eF, aT, aF, ite_true, ite_false, ite_not, bs]
      · have cz' : z < 0 ∨ 0 < z := by omega
        simp (disch := first | omega | exact cz') only [b_X7_take_45, q1, lm8, lm2, lm1, l0, l1, l2, l3, l4, l5, l6, l7, l8, l9, l10, l11, l12, l13, l14, l15, l16, l17, l18, l19, l20, l21, l22, l23, l24, l25, l27, l31, l32, l40, l46, l48, l50, l57, l59, l63, l86, l96, l97, l100, l110, l114, l122, l127, l200, l255, l300, l319, l320, l340, l441, l456, l580, l600, l800, l886, l1206, l1526, J_add, J_sub, J_mul, J_neg, J_lt, J_le, J_eq, jT, jF, iT, iF, eT, eF, aT, aF, ite_true, ite_false, ite_not, bs])
  have R' := R.fr F
  have H' := ctf g F
  obtain ⟨z, q1, q2, q3⟩ := G.is R'.tag
  rw [last]
  have el2 : l_X7_take_45 r a (J s) (fun hz7 => j_X7_take_72 r hz7) (fun hz8 => j_X7_take_113 r hz8) (J 0) h = b_X7_take_45 r a (J s) (fun hz7 => j_X7_take_72 r hz7) (fun hz8 => j_X7_take_113 r hz8) (fun _ _ => none) (J N) g := el_
  rw [el2]
  by_cases c6 : 600 ≤ N
  · refine ⟨g, ?_, F, G, c⟩
    simp (disch := omega) only [b_X7_take_45, lm8, lm2, lm1, l0, l1, l2, l3, l4, l5, l6, l7, l8, l9, l10, l11, l12, l13, l14, l15, l16, l17, l18, l19, l20, l21, l22, l23, l24, l25, l27, l31, l32, l40, l46, l48, l50, l57, l59, l63, l86, l96, l97, l100, l110, l114, l122, l127, l200, l255, l300, l319, l320, l340, l441, l456, l580, l600, l800, l886, l1206, l1526, J_add, J_sub, J_mul, J_neg, J_lt, J_le, J_eq, jT, jF, iT, iF, eT, eF, aT, aF, ite_true, ite_false, ite_not, bs]
  · by_cases cz : z = 0
    · rw [cz] at q1
      have nN : N = n := by
        rcases Nf with q | q
        · exact q
        · exact absurd (q3.mp cz) q
      obtain ⟨p, p1, p2, p3, p4⟩ := t
      obtain ⟨g1, e1, F1, tp1, rd⟩ := CL.read R'.2.1.2 H' (by omega) p1 p2 p3 s0 s1 p4
      have F1' : FR (ARf r a) g g1 := F1.mono (fun b k q => Or.inl q)
      have lo := lo_rg (B := B) (L := L) (s := s) (f := lsI B L s N)
      refine ⟨g1, ?_, F.trans (F1'.mono (fun b k q => Or.inl q)), G.frame F1 (by unfold ARd ATk; omega) (by unfold ARd ATk; omega), hC _ _ _ c F1'⟩
      rw [nN] at lo e1 c6 ⊢
      have n3' : loF B L s (lsI B L s n) < 2 ∨ 2 < loF B L s (lsI B L s n) := by omega
      simp (disch := first | omega | exact n3') only [b_X7_take_45, j_X7_take_72, q1, R'.r0, rc_ok R'.2.1.2.1, e1, lm8, lm2, lm1, l0, l1, l2, l3, l4, l5, l6, l7, l8, l9, l10, l11, l12, l13, l14, l15, l16, l17, l18, l19, l20, l21, l22, l23, l24, l25, l27, l31, l32, l40, l46, l48, l50, l57, l59, l63, l86, l96, l97, l100, l110, l114, l122, l127, l200, l255, l300, l319, l320, l340, l441, l456, l580, l600, l800, l886, l1206, l1526, J_add, J_sub, J_mul, J_neg, J_lt, J_le, J_eq, jT, jF, iT, iF, eT, eF, aT, aF, ite_true, ite_false, ite_not, bs]
    · have cz' : z < 0 ∨ 0 < z := by omega
      refine ⟨g, ?_, F, G, c⟩
      simp (disch := first | omega | exact cz') only [b_X7_take_45, q1, lm8, lm2, lm1, l0, l1, l2, l3, l4, l5, l6, l7, l8, l9, l10, l11, l12, l13, l14, l15, l16, l17, l18, l19, l20, l21, l22, l23, l24, l25, l27, l31, l32, l40, l46, l48, l50, l57, l59, l63, l86, l96, l97, l100, l110, l114, l122, l127, l200, l255, l300, l319, l320, l340, l441, l456, l580, l600, l800, l886, l1206, l1526, J_add, J_sub, J_mul, J_neg, J_lt, J_le, J_eq, jT, jF, iT, iF, eT, eF, aT, aF, ite_true, ite_false, ite_not, bs]
end TK
