/-! PURE PART: a state copied, the class -/
section IMD
variable {h : Hp} {c d : Nat} {S : Sx}
theorem TS9.at4 {g : Hp} {s P : Nat} (T : TS9 (top g) s) (hP : P < 2) : (gfR g s 9 4 = some (s + 4) ∧ alR g (s + 4) 24 (J (P : Int)) = some (s + 7 + 17 * P)) ∧ (gfR g s 9 5 = some (s + 5) ∧ alR g (s + 5) 25 (J (P : Int)) = some (s + 17 + 17 * P)) ∧ gfR g s 9 6 = some (s + 6) ∧ alR g (s + 6) 26 (J (P : Int)) = some (s + 22 + 17 * P) := by
  obtain ⟨t0, -, -, ⟨t4, t4', t4''⟩, ⟨t5, t5', t5''⟩, ⟨t6, t6', t6''⟩, ta⟩ := T
  obtain ⟨⟨a1, -⟩, ⟨a2, -⟩, a3, -⟩ := ta P hP
  have al4 := alR_ok (h := g) (a := s + 4) (t := 24) (n := 2) (i := (P : Int)) t4' t4'' (by omega) (by omega) (by omega)
  have al5 := alR_ok (h := g) (a := s + 5) (t := 25) (n := 2) (i := (P : Int)) t5' t5'' (by omega) (by omega) (by omega)
  have al6 := alR_ok (h := g) (a := s + 6) (t := 26) (n := 2) (i := (P : Int)) t6' t6'' (by omega) (by omega) (by omega)
  rw [show hR g (s + 4) ((P : Int)).toNat = s + 7 + 17 * P from a1] at al4
  rw [show hR g (s + 5) ((P : Int)).toNat = s + 17 + 17 * P from a2] at al5
  rw [show hR g (s + 6) ((P : Int)).toNat = s + 22 + 17 * P from a3] at al6
  exact ⟨⟨gfR_ok t0 t4, al4⟩, ⟨gfR_ok t0 t5, al5⟩, gfR_ok t0 t6, al6⟩
theorem CS.copyFrom (C : CS h c S) (D : TS9 (top h) d) (dj : c + 40 < d ∨ d + 40 < c) : ∃ g, m_X9_copyFrom d c h = some g ∧ FR (fun b _ => d ≤ b ∧ b ≤ d + 40) h g ∧ CS g d S := by
  obtain ⟨c1, c2, c3, c4, c5, c6⟩ := id C
  have rC0 := C.r0
  have rD0 : gfR h d 9 0 = some (d + 1) := gfR_ok D.1 D.2.1.1
  obtain ⟨g1, e1, F1, K1⟩ := X10_copy_ok (h := h) (c := c + 1) (d := d + 1) D.2.1.2 (by omega) c2
  have f1 : gfI g1 c 9 1 = some (J (sF S)) := by
    rw [gfI_ok (by rw [F1.tag]; exact c1.1)]
    exact congrArg (fun z => some (J z)) ((F1.e (by omega)).trans c3)
  have p1 : pfI g1 d 9 1 (J (sF S)) = some (wE g1 d 1 (sF S)) := pfI_ok (k := 1) (by rw [F1.tag]; exact D.1)
  have rg3 := hE_rg h c 1
  have rg4 := hE_rg h c 2
  rw [c3] at rg3
  rw [c4] at rg4
  have F2 : FR (fun b k => b = d ∧ k = 1) g1 (wE g1 d 1 (sF S)) := FR.wE (A := fun b k => b = d ∧ k = 1) ⟨rfl, rfl⟩
  have u1 : hE (wE g1 d 1 (sF S)) d 1 = sF S := by rw [hE_wE (by omega) (by omega) rg3.1 rg3.2, if_pos ⟨rfl, rfl⟩]
  generalize wE g1 d 1 (sF S) = g2 at *
  have f2 : gfI g2 c 9 2 = some (J (sP S)) := by
    rw [gfI_ok (by rw [F2.tag, F1.tag]; exact c1.1)]
    exact congrArg (fun z => some (J z)) ((F2.e (by omega)).trans ((F1.e (by omega)).trans c4))
  have p2 : pfI g2 d 9 2 (J (sP S)) = some (wE g2 d 2 (sP S)) := pfI_ok (k := 2) (by rw [F2.tag, F1.tag]; exact D.1)
  have F3 : FR (fun b k => b = d ∧ k = 2) g2 (wE g2 d 2 (sP S)) := FR.wE (A := fun b k => b = d ∧ k = 2) ⟨rfl, rfl⟩
  have u2 : hE (wE g2 d 2 (sP S)) d 2 = sP S := by rw [hE_wE (by omega) (by omega) rg4.1 rg4.2, if_pos ⟨rfl, rfl⟩]
  generalize wE g2 d 2 (sP S) = g3 at *
  have T3 : top g3 = top h := by rw [F3.1, F2.1, F1.1]
  have rC3 : gfR g3 c 9 3 = some (c + 3) := gfR_ok (by show (top g3).1 _ = _; rw [T3]; exact c1.1) (by show (top g3).2.2 _ _ = _; rw [T3]; exact c1.2.2.1.1)
  have rD3 : gfR g3 d 9 3 = some (d + 3) := gfR_ok (by show (top g3).1 _ = _; rw [T3]; exact D.1) (by show (top g3).2.2 _ _ = _; rw [T3]; exact D.2.2.1.1)
  obtain ⟨g4, e4, F4, z4⟩ := X5_copy_ok (h := g3) (a := c + 3) (b := d + 3) (n := 3) (by rw [T3]; exact c1.2.2.1.2) (by rw [T3]; exact D.2.2.1.2) (by omega)
  have FA : FR (fun b _ => d ≤ b ∧ b ≤ d + 3) h g4 := (((F1.mono (fun b k q => by omega)).trans (F2.mono (fun b k q => by omega))).trans (F3.mono (fun b k q => by omega))).trans (F4.mono (fun b k q => by omega))
  have K4 : CT g4 (d + 1) (sB S) (sL S) := ((K1.frame F2 (by omega) (fun k => by omega)).frame F3 (by omega) (fun k => by omega)).frame F4 (by omega) (fun k => by omega)
  have n4 : ∀ k, 0 ≤ k → k < 3 → hE g4 (d + 3) k = sN S k := fun k k0 k1 => by
    have e : hE g4 (d + 3) k = hE g3 (c + 3) k := by
      unfold hE
      rw [z4 k.toNat (by omega)]
    rw [e, F3.e (by omega), F2.e (by omega), F1.e (by omega), c5 k k0 k1]
  have u1' : hE g4 d 1 = sF S := by rw [F4.e (by omega), F3.e (by omega), u1]
  have u2' : hE g4 d 2 = sP S := by rw [F4.e (by omega), u2]
  obtain ⟨st, ⟨g, rfl, F, z⟩, el⟩ := loop_ex (body := fun (k_ : Int32 × Hp → Option Hp) (s : Int32 × Hp) => b_X9_copyFrom_40 d c (fun v2q hq => k_ (v2q, hq)) s.1 s.2) (s := (J 0, g4)) (fun i st => ∃ g, st = (J i, g) ∧ FR (fun b _ => d + 7 ≤ b ∧ b ≤ d + 40) g4 g ∧ ∀ j : Nat, (j : Int) < i → j < 2 → ((j : Int) < sN S 0 → CA g (d + 7 + 17 * j) (sT S j) ∧ DA g (d + 7 + 17 * j) (sT S j) ∧ CW g (d + 7 + 17 * j) (sT S j)) ∧ ((j : Int) < sN S 1 → QA g (d + 17 + 17 * j) (sQ S j)) ∧ ((j : Int) < sN S 2 → HA g (d + 22 + 17 * j) (sU S j))) (fun st => some st.2) 2 (by omega) (by omega) ⟨g4, rfl, FR.refl _ _, fun j q => by omega⟩ (by
    rintro k_ i st i0 i1 ⟨g, rfl, F, z⟩
    obtain ⟨P, rfl⟩ : ∃ P : Nat, i = (P : Int) := ⟨i.toNat, by omega⟩
    have P2 : P < 2 := by omega
    have Fh : FR (fun b _ => d ≤ b ∧ b ≤ d + 40) h g := (FA.mono (fun b k q => by omega)).trans (F.mono (fun b k q => by omega))
    have Cg := C.frame Fh (fun b k b0 b1 q => by omega)
    have Dg : TS9 (top g) d := by rw [Fh.1]; exact D
    have iC := Cg.1.2.2.2.2.2.2 P P2
    have iD := Dg.2.2.2.2.2.2 P P2
    obtain ⟨y1, y2, y3⟩ := Cg.2.2.2.2.2 P P2
    obtain ⟨g5, e5, I5, z5⟩ := X0_copyFrom_ok (h := g) (c := c + 7 + 17 * P) (d := d + 7 + 17 * P) iC.1.2 iD.1.2 (by omega)
    have T5 := I5.1.1
    obtain ⟨g6, e6, I6⟩ := X6_copyFrom_ok (h := g5) (c := c + 17 + 17 * P) (d := d + 17 + 17 * P) (by rw [T5]; exact iC.2.1.2) (by rw [T5]; exact iD.2.1.2) (by omega)
    have T6 := I6.1.1
    obtain ⟨g7, e7, I7⟩ := X3_copyFrom_ok (h := g6) (c := c + 22 + 17 * P) (d := d + 22 + 17 * P) (by rw [T6, T5]; exact iC.2.2.2) (by rw [T6, T5]; exact iD.2.2.2) (by omega)
    have FS : FR (fun b _ => d + 7 + 17 * P ≤ b ∧ b ≤ d + 23 + 17 * P) g g7 := ((I5.1.mono (fun b k q => by omega)).trans (I6.1.mono (fun b k q => by omega))).trans (I7.1.mono (fun b k q => by omega))
    have F67 := (I6.1.mono (B := fun b _ => d + 17 + 17 * P ≤ b ∧ b ≤ d + 23 + 17 * P) (fun b k q => by omega)).trans (I7.1.mono (fun b k q => by omega))
    have c5_ := Cg.1.at4 P2
    have d5_ := Dg.at4 P2
    have C5 : TS9 (top g5) c := by rw [T5]; exact Cg.1
    have D5 : TS9 (top g5) d := by rw [T5]; exact Dg
    have C6 : TS9 (top g6) c := by rw [T6]; exact C5
    have D6 : TS9 (top g6) d := by rw [T6]; exact D5
    have c6_ := C5.at4 P2
    have d6_ := D5.at4 P2
    have c7_ := C6.at4 P2
    have d7_ := D6.at4 P2
    have t1 : hTag g (d + 7 + 17 * P) = 1 := iD.1.2.1
    have t2 : hTag g5 (d + 17 + 17 * P) = 6 := by rw [I5.1.tag]; exact iD.2.1.2.1
    have t3 : hTag g6 (d + 22 + 17 * P) = 4 := by rw [I6.1.tag, I5.1.tag]; exact iD.2.2.2.1
    refine ⟨(J ((P : Int) + 1), g7), ⟨g7, rfl, F.trans (FS.mono (fun b k q => by omega)), fun j j0 j1 => ?_⟩, ?_⟩
    · by_cases jP : j = P
      · subst jP
        refine ⟨fun q => ?_, fun q => ?_, fun q => ?_⟩
        · obtain ⟨a1, a2, a3⟩ := y1 q
          obtain ⟨k1, k2, k3⟩ := CA.copied I5 z5 iD.1.2 a1 a2 a3
          refine ⟨?_, ⟨k2.1, fun e v hv => by rw [F67.e (by omega), k2.2 e v hv]⟩, ?_⟩
          · refine k1.frame F67 ?_ ?_ (fun k => ?_) (fun k => ?_) (fun k => ?_) (fun k => ?_) (fun k => ?_) (fun k => ?_) <;> omega
          · refine k3.frame F67 ?_ (fun k => ?_) (fun k => ?_) <;> omega
        · have a1 : QA g5 (c + 17 + 17 * j) (sQ S j) := by
            refine (y2 q).frame I5.1 ?_ (fun k => ?_) (fun k => ?_) (fun k => ?_) (fun k => ?_) <;> omega
          have k1 := QA.copied I6 (by rw [T5]; exact iD.2.1.2) a1
          refine k1.frame I7.1 ?_ (fun k => ?_) (fun k => ?_) (fun k => ?_) (fun k => ?_) <;> omega
        · have a1 : HA g6 (c + 22 + 17 * j) (sU S j) := by
            have a0 : HA g5 (c + 22 + 17 * j) (sU S j) := by
              refine (y3 q).frame I5.1 ?_ (fun k => ?_) <;> omega
            refine a0.frame I6.1 ?_ (fun k => ?_) <;> omega
          exact HA.copied I7 (by rw [T6, T5]; exact iD.2.2.2) a1
      · obtain ⟨x1, x2, x3⟩ := z j (by omega) j1
        refine ⟨fun q => ?_, fun q => ?_, fun q => ?_⟩
        · obtain ⟨k1, k2, k3⟩ := x1 q
          refine ⟨?_, ⟨k2.1, fun e v hv => by rw [FS.e (by omega), k2.2 e v hv]⟩, ?_⟩
          · refine k1.frame FS ?_ ?_ (fun k => ?_) (fun k => ?_) (fun k => ?_) (fun k => ?_) (fun k => ?_) (fun k => ?_) <;> omega
          · refine k3.frame FS ?_ (fun k => ?_) (fun k => ?_) <;> omega
        · refine (x2 q).frame FS ?_ (fun k => ?_) (fun k => ?_) (fun k => ?_) (fun k => ?_) <;> omega
        · refine (x3 q).frame FS ?_ (fun k => ?_) <;> omega
    · show b_X9_copyFrom_40 d c (fun v2q hq => k_ (v2q, hq)) (J (P : Int)) g = _
      simp (disch := omega) only [b_X9_copyFrom_40, d5_.1.1, d5_.1.2, c5_.1.1, c5_.1.2, rc_ok t1, e5, d6_.2.1.1, d6_.2.1.2, c6_.2.1.1, c6_.2.1.2, rc_ok t2, e6, d7_.2.2.1, d7_.2.2.2, c7_.2.2.1, c7_.2.2.2, rc_ok t3, e7, lm8, lm2, lm1, l0, l1, l2, l3, l4, l5, l6, l7, l8, l9, l10, l11, l12, l13, l14, l15, l16, l17, l18, l19, l20, l21, l22, l23, l24, l25, l27, l31, l32, l40, l46, l48, l50, l57, l59, l63, l86, l96, l97, l100, l110, l114, l122, l127, l200, l255, l300, l319, l320, l340, l441, l456, l580, l600, l800, l886, l1206, l1526, J_add, J_sub, J_mul, J_neg, J_lt, J_le, J_eq, jT, jF, iT, iF, eT, eF, aT, aF, ite_true, ite_false, ite_not, bs]) (by
    rintro k_ st ⟨g, rfl, -⟩
    show b_X9_copyFrom_40 d c (fun v2q hq => k_ (v2q, hq)) (J 2) g = _
    simp (disch := omega) only [b_X9_copyFrom_40, lm8, lm2, lm1, l0, l1, l2, l3, l4, l5, l6, l7, l8, l9, l10, l11, l12, l13, l14, l15, l16, l17, l18, l19, l20, l21, l22, l23, l24, l25, l27, l31, l32, l40, l46, l48, l50, l57, l59, l63, l86, l96, l97, l100, l110, l114, l122, l127, l200, l255, l300, l319, l320, l340, l441, l456, l580, l600, l800, l886, l1206, l1526, J_add, J_sub, J_mul, J_neg, J_lt, J_le, J_eq, jT, jF, iT, iF, eT, eF, aT, aF, ite_true, ite_false, ite_not, bs])
  have FF : FR (fun b _ => d ≤ b ∧ b ≤ d + 40) h g := (FA.mono (fun b k q => by omega)).trans (F.mono (fun b k q => by omega))
  refine ⟨g, ?_, FF, by rw [FF.1]; exact D, K4.frame F (by omega) (fun k => by omega), by rw [F.e (by omega), u1'], by rw [F.e (by omega), u2'], fun k k0 k1 => by rw [F.e (by omega), n4 k k0 k1], fun i hi => z i (by omega) hi⟩
  unfold m_X9_copyFrom
  have tD1 : hTag h (d + 1) = 10 := D.2.1.2.1
  rw [rD0, bs, rC0, bs, rc_ok tD1, e1, bs, f1, bs, p1, bs, f2, bs, p2, bs, rC3, bs, rD3, bs, e4, bs]
  exact el
end IMD
