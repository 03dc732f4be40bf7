/-! PURE PART: a question taken, a fact taken, the class -/
def qaF (B : Int → Int) (L f k : Int) : Int := if k = 0 then nwF B L f k else viF B L f k 0
def qbF (B : Int → Int) (L f k : Int) : Int := if 6 ≤ k then viF B L f k 1 else -1
/-- the questions with a line more -/
def stpQ (B : Int → Int) (L : Int) (Q : Int → Int) (f k : Int) : Int → Int := fun i => if i = 0 then Q 0 + 1 else if i = 1 + 7 * Q 0 then k else if i = 1 + 7 * Q 0 + 1 then qaF B L f k else if i = 1 + 7 * Q 0 + 2 then qbF B L f k else if 1 + 7 * Q 0 + 3 ≤ i ∧ i < 1 + 7 * Q 0 + 7 then (if i - (1 + 7 * Q 0 + 3) < nwF B L f k then wnL B L f k (i - (1 + 7 * Q 0 + 3)) else 0) else Q i
/-- the facts with a line more -/
def stpU (B : Int → Int) (L : Int) (U : Int → Int) (f k : Int) : Int → Int := fun i => if i = 0 then U 0 + 1 else if i = 1 + 3 * U 0 then (if k = 13 then 1 else 0) else if i = 1 + 3 * U 0 + 1 then viF B L f k 0 else if i = 1 + 3 * U 0 + 2 then viF B L f k 1 else U i
def elQ (B : Int → Int) (L : Int) (Q : Int → Int) (f k : Int) : Int := min (min (e2n B L f k (Q 0)) (e2w B L f k)) (min (if 8 ≤ Q 0 then 8 * f + 3 else 9999) (if k = 0 then e3w B L f k 4 else 9999))
def elU (B : Int → Int) (L : Int) (U : Int → Int) (f k : Int) : Int := min (min (e2n B L f k 0) (e2w B L f k)) (if 8 ≤ U 0 then 8 * f + 3 else 9999)
def GoodQ (B : Int → Int) (L : Int) (Q : Int → Int) (f k : Int) : Prop := e2n B L f k (Q 0) = 9999 ∧ e2w B L f k = 9999 ∧ Q 0 < 8 ∧ (k = 0 → nwF B L f k ≤ 4)
section QS
variable {h : Hp} {r : Nat} {B : Int → Int} {L f k e : Int} {Q U : Int → Int}
theorem stpQ_old {i : Int} (i0 : 1 ≤ i) (i1 : i < 1 + 7 * Q 0) : stpQ B L Q f k i = Q i := by
  unfold stpQ
  rw [if_neg (by omega), if_neg (by omega), if_neg (by omega), if_neg (by omega), if_neg (by omega)]
theorem stpQ_0 : stpQ B L Q f k 0 = Q 0 + 1 := if_pos rfl
theorem stpQ_k (q0 : 0 ≤ Q 0) : qkT (stpQ B L Q f k) (Q 0) = k := by
  unfold qkT stpQ
  rw [if_neg (by omega), if_pos rfl]
theorem stpQ_a (q0 : 0 ≤ Q 0) : qaT (stpQ B L Q f k) (Q 0) = qaF B L f k := by
  unfold qaT stpQ
  rw [if_neg (by omega), if_neg (by omega), if_pos (by omega)]
theorem stpQ_b (q0 : 0 ≤ Q 0) : qbT (stpQ B L Q f k) (Q 0) = qbF B L f k := by
  unfold qbT stpQ
  rw [if_neg (by omega), if_neg (by omega), if_neg (by omega), if_pos (by omega)]
theorem stpQ_w (q0 : 0 ≤ Q 0) {i : Int} (i0 : 0 ≤ i) (i1 : i < 4) : qwT (stpQ B L Q f k) (Q 0) i = if i < nwF B L f k then wnL B L f k i else 0 := by
  unfold qwT stpQ
  rw [if_neg (by omega), if_neg (by omega), if_neg (by omega), if_neg (by omega), if_pos (by omega), show 1 + 7 * Q 0 + (3 + i) - (1 + 7 * Q 0 + 3) = i by omega]
theorem stpQ_lo {j : Int} (j0 : 0 ≤ j) (j1 : j < Q 0) : qkT (stpQ B L Q f k) j = qkT Q j ∧ qaT (stpQ B L Q f k) j = qaT Q j ∧ qbT (stpQ B L Q f k) j = qbT Q j ∧ qcT (stpQ B L Q f k) j = qcT Q j ∧ ∀ i, 0 ≤ i → i < 4 → qwT (stpQ B L Q f k) j i = qwT Q j i := by
  have a1 : qkT (stpQ B L Q f k) j = qkT Q j := by unfold qkT; exact stpQ_old (by omega) (by omega)
  have a2 : qaT (stpQ B L Q f k) j = qaT Q j := by unfold qaT; exact stpQ_old (by omega) (by omega)
  refine ⟨a1, a2, ?_, ?_, fun i i0 i1 => ?_⟩
  · unfold qbT; exact stpQ_old (by omega) (by omega)
  · unfold qcT; rw [a1, a2]
  · unfold qwT; exact stpQ_old (by omega) (by omega)
/-- its words, its numbers -/
theorem GoodQ.facts (G : GoodQ B L Q f k) (W : LnW B L f k) (q0 : 0 ≤ Q 0) (k7 : k ≤ 7) : qcT (stpQ B L Q f k) (Q 0) = nwF B L f k ∧ (0 ≤ nwF B L f k ∧ nwF B L f k ≤ 4) ∧ (k = 0 → 1 ≤ nwF B L f k) ∧ (k = 1 ∨ k = 2 → 1 ≤ viF B L f k 0 ∧ viF B L f k 0 ≤ 9) ∧ (3 ≤ k → 0 ≤ viF B L f k 0 ∧ viF B L f k 0 < Q 0) ∧ (6 ≤ k → 0 ≤ viF B L f k 1 ∧ viF B L f k 1 < Q 0) ∧ (k ≠ 0 → 0 < nCk k) ∧ (nCk k = if k = 0 then 0 else if 6 ≤ k then 2 else 1) := by
  have k0 := W.2.1.1
  have kr := kk_rg k
  obtain ⟨g1, g2, g3, g4⟩ := G
  have ex := ex_spec (B := B) (k := k) W.1.2.2 W.1.1 W.1.2.1
  have nC : nCk k = if k = 0 then 0 else if 6 ≤ k then 2 else 1 := by
    unfold nCk
    repeat' split
    all_goals omega
  have wC : wCk k = if k = 0 then 1 else if k = 1 then 2 else if k = 2 then 1 else 0 := rfl
  have no : k ≠ 0 → nwF B L f k = wCk k := fun q => ex_no W (fun m => by
    have := of_decide_eq_true m
    omega)
  have nd : nwF B L f k = wCk k + exF B L f k := rfl
  refine ⟨?_, ?_, fun q => ?_, fun q => ?_, fun q => ?_, fun q => ?_, fun q => ?_, nC⟩
  · unfold qcT
    rw [stpQ_k q0, stpQ_a q0]
    unfold qaF
    by_cases c : k = 0
    · rw [if_pos c, if_pos c]
    · rw [if_neg c, no c, wC, if_neg c]
  · by_cases c : k = 0
    · have := g4 c
      omega
    · have := no c
      omega
  · rw [if_pos q] at wC
    omega
  · have a := e2n_ok W g1 (j := 0) (by omega) (by rw [nC, if_neg (by omega)]; split <;> omega)
    unfold loV hiV at a
    rw [if_pos (by omega), if_pos q] at a
    exact a
  · have a := e2n_ok W g1 (j := 0) (by omega) (by rw [nC, if_neg (by omega)]; split <;> omega)
    unfold loV hiV at a
    rw [if_neg (by omega), if_neg (by omega), if_neg (by omega), if_neg (by omega), if_neg (by omega), if_neg (by omega)] at a
    omega
  · have a := e2n_ok W g1 (j := 1) (by omega) (by rw [nC, if_neg (by omega), if_pos q]; omega)
    unfold loV hiV at a
    rw [if_neg (by omega), if_neg (by omega), if_neg (by omega), if_neg (by omega), if_neg (by omega), if_neg (by omega)] at a
    omega
  · rw [nC, if_neg q]
    split <;> omega
theorem GoodQ.wf (G : GoodQ B L Q f k) (W : LnW B L f k) (WQ : QW Q) (k7 : k ≤ 7) : QW (stpQ B L Q f k) := by
  have q0 := WQ.1
  have k0 := W.2.1.1
  have g3 := G.2.2.1
  obtain ⟨f1, f2, f3, f4, f5, f6, f7, f8⟩ := G.facts W q0.1 k7
  refine ⟨by rw [stpQ_0]; omega, fun j j0 j1 => ?_⟩
  rw [stpQ_0] at j1
  by_cases c : j < Q 0
  · obtain ⟨a1, a2, a3, a4, a5⟩ := stpQ_lo (B := B) (L := L) (f := f) (k := k) j0 c
    rw [a1, a2, a3, a4]
    obtain ⟨w1, w2, w3, w4, w5, w6, w7⟩ := WQ.2 j j0 c
    have ct := WQ.cnt j0 c
    exact ⟨w1, w2, w3, w4, w5, w6, fun i i0 i1 => by rw [a5 i i0 (by omega)]; exact w7 i i0 i1⟩
  · have cj : j = Q 0 := by omega
    rw [cj, f1, stpQ_k q0.1, stpQ_a q0.1, stpQ_b q0.1]
    refine ⟨⟨k0, k7⟩, fun q => ?_, fun q => ?_, fun q => ?_, fun q q2 => ?_, fun q => ?_, fun i i0 i1 => ?_⟩
    · unfold qaF qbF
      rw [if_pos q, if_neg (by omega)]
      have := f3 q
      omega
    · unfold qaF qbF
      rw [if_neg (by omega), if_neg (by omega)]
      have := f4 q
      omega
    · unfold qaF
      rw [if_neg (by omega)]
      exact f5 q
    · unfold qbF
      rw [if_neg (by omega)]
    · unfold qbF
      rw [if_pos q]
      exact f6 q
    · rw [stpQ_w q0.1 i0 (by omega), if_pos i1]
      exact (W.ok G.2.1 i0 i1).1
def Aqs (r b k : Nat) : Prop := r + 16 ≤ b ∧ b ≤ r + 20
theorem LnP.addQ (P : LnP h (r + 1) B L f k) (R : TRd (top h) r) (W : LnW B L f k) (H : QA h (r + 16) Q) (k7 : k ≤ 7) (G : GoodQ B L Q f k) : ∃ h', m_X6_add (r + 16) (r + 1) h = some h' ∧ FR (Aqs r) h h' ∧ QA h' (r + 16) (stpQ B L Q f k) := by
  have q0 := H.2.1.1
  have k0 := W.2.1.1
  have g3 := G.2.2.1
  obtain ⟨f1, f2, f3, f4, f5, f6, f7, f8⟩ := G.facts W q0.1 k7
  have T0 := H.1
  have lpf : ∀ g, FR (Aqs r) h g → LnP g (r + 1) B L f k := fun g F => P.frame F (fun b k b0 b1 => by unfold Aqs; omega)
  have tq : ∀ g, FR (Aqs r) h g → TQ (top g) (r + 16) := fun g F => by rw [F.1]; exact T0
  generalize ho : r + 16 = o at *
  have sub : ∀ a, o ≤ a → a ≤ o + 4 → ∀ b k : Nat, (b = a) → Aqs r b k := fun a a0 a1 b k q => by unfold Aqs; omega
  have r1 : ∀ g, FR (Aqs r) h g → gfR g o 6 1 = some (o + 1) := fun g F => gfR_ok (tq g F).1 (tq g F).2.1.1
  have r2 : ∀ g, FR (Aqs r) h g → gfR g o 6 2 = some (o + 2) := fun g F => gfR_ok (tq g F).1 (tq g F).2.2.1.1
  have r3 : ∀ g, FR (Aqs r) h g → gfR g o 6 3 = some (o + 3) := fun g F => gfR_ok (tq g F).1 (tq g F).2.2.2.1.1
  have r4 : ∀ g, FR (Aqs r) h g → gfR g o 6 4 = some (o + 4) := fun g F => gfR_ok (tq g F).1 (tq g F).2.2.2.2.1
  have p1 : pfI h o 6 0 (J (Q 0 + 1)) = some (wE h o 0 (Q 0 + 1)) := pfI_ok T0.1
  have F1 : FR (Aqs r) h (wE h o 0 (Q 0 + 1)) := FR.wE (A := Aqs r) (by unfold Aqs; omega)
  have c1 : ∀ b j, 0 ≤ j → hE (wE h o 0 (Q 0 + 1)) b j = if b = o ∧ j = 0 then Q 0 + 1 else hE h b j := fun b j j0 => hE_wE (by omega) j0 (by omega) (by omega)
  generalize wE h o 0 (Q 0 + 1) = g1 at *
  obtain ⟨g2, s2, F2, c2⟩ := set_any (h := g1) (i := Q 0) (z := k) (tq g1 F1).2.1.2 (by omega) q0.1 (by omega) (by omega) (by omega)
  have F02 := F1.trans (F2.mono (sub (o + 1) (by omega) (by omega)))
  have em : m_J9_min_7cf53 (J (nwF B L f k)) (J 4) g2 = some (J (nwF B L f k)) := by
    rw [J9_min_ok (by omega) (by omega) (by omega) (by omega), show min (nwF B L f k) 4 = nwF B L f k by omega]
  obtain ⟨g3_, s3, F3, c3⟩ := set_any (h := g2) (i := Q 0) (z := nwF B L f k) (tq g2 F02).2.2.2.1.2 (by omega) q0.1 (by omega) (by omega) (by omega)
  have F03 := F02.trans (F3.mono (sub (o + 3) (by omega) (by omega)))
  have hd : m_X6_add o (r + 1) h = l_X6_add_52 o (r + 1) (J (Q 0)) (fun hz10 => j_X6_add_92 o (r + 1) (J (Q 0)) hz10) (J 0) g3_ := by
    simp (disch := omega) only [m_X6_add, H.f0, p1, r1 g1 F1, (lpf g1 F1).f0, s2, r3 g2 F02, (lpf g2 F02).f3, em, s3, lm8, lm2, lm1, l0, l1, l2, l3, l4, l5, l6, l7, l8, l9, l10, l11, l12, l13, l14, l15, l16, l17, l18, l19, l20, l21, l22, l23, l24, l25, l27, l31, l32, l40, l46, l48, l50, l57, l59, l63, l86, l96, l97, l100, l110, l114, l122, l127, l200, l255, l300, l319, l320, l340, l441, l456, l580, l600, l800, l886, l1206, l1526, J_add, J_sub, J_mul, J_neg, J_lt, J_le, J_eq, jT, jF, iT, iF, eT, eF, aT, aF, ite_true, ite_false, ite_not, bs]
  rw [hd]
  -- the numbers
  obtain ⟨s, ⟨g4, rfl, F4, d1, d2⟩, el⟩ := loop_ex (body := fun (k_ : Int32 × Hp → Option Hp) (s : Int32 × Hp) => b_X6_add_52 o (r + 1) (J (Q 0)) (fun hz10 => j_X6_add_92 o (r + 1) (J (Q 0)) hz10) (fun v3q hq => k_ (v3q, hq)) s.1 s.2) (s := (J 0, g3_)) (fun i s => ∃ g, s = (J i, g) ∧ FR (fun b _ => b = o + 2) g3_ g ∧ (∀ j, 0 ≤ j → j < i → hE g (o + 2) (Q 0 * 2 + j) = if j < nCk k then viF B L f k j else -1) ∧ (∀ c, 0 ≤ c → c < Q 0 * 2 → hE g (o + 2) c = hE g3_ (o + 2) c)) (fun s => j_X6_add_92 o (r + 1) (J (Q 0)) s.2) 2 (by omega) (by omega) ⟨g3_, rfl, FR.refl _ _, fun j j0 j1 => by omega, fun c _ _ => rfl⟩ (by
    rintro k_ i s i0 i1 ⟨g, rfl, F, d1, d2⟩
    have F0 := F03.trans (F.mono (sub (o + 2) (by omega) (by omega)))
    have P' := lpf g F0
    have hz : -2147483648 ≤ (if i < nCk k then viF B L f k i else -1) ∧ (if i < nCk k then viF B L f k i else -1) < 2147483648 := by
      by_cases c : i < nCk k
      · rw [if_pos c]
        have := (W.num i0 c).2
        omega
      · rw [if_neg c]
        omega
    obtain ⟨g', s1, F1, c1⟩ := set_any (h := g) (i := Q 0 * 2 + i) (z := if i < nCk k then viF B L f k i else -1) (tq g F0).2.2.1.2 (by omega) (by omega) (by omega) hz.1 hz.2
    refine ⟨(J (i + 1), g'), ⟨g', rfl, F.trans F1, fun j j0 j1 => ?_, fun c c0 c2 => ?_⟩, ?_⟩
    · rw [c1 _ _ (by omega)]
      by_cases q : j = i
      · rw [if_pos (by omega), q]
      · rw [if_neg (by omega), d1 j j0 (by omega)]
    · rw [c1 _ _ c0, if_neg (by omega), d2 c c0 c2]
    · show b_X6_add_52 o (r + 1) (J (Q 0)) (fun hz10 => j_X6_add_92 o (r + 1) (J (Q 0)) hz10) (fun v3q hq => k_ (v3q, hq)) (J i) g = _
      by_cases c : i < nCk k
      · rw [if_pos c] at s1
        have ev := P'.value i0 c
        simp (disch := omega) only [b_X6_add_52, j_X6_add_83, r2 g F0, P'.f2, rc_ok P'.tag, ev, s1, lm8, lm2, lm1, l0, l1, l2, l3, l4, l5, l6, l7, l8, l9, l10, l11, l12, l13, l14, l15, l16, l17, l18, l19, l20, l21, l22, l23, l24, l25, l27, l31, l32, l40, l46, l48, l50, l57, l59, l63, l86, l96, l97, l100, l110, l114, l122, l127, l200, l255, l300, l319, l320, l340, l441, l456, l580, l600, l800, l886, l1206, l1526, J_add, J_sub, J_mul, J_neg, J_lt, J_le, J_eq, jT, jF, iT, iF, eT, eF, aT, aF, ite_true, ite_false, ite_not, bs]
      · rw [if_neg c] at s1
        simp (disch := omega) only [b_X6_add_52, j_X6_add_83, r2 g F0, P'.f2, s1, lm8, lm2, lm1, l0, l1, l2, l3, l4, l5, l6, l7, l8, l9, l10, l11, l12, l13, l14, l15, l16, l17, l18, l19, l20, l21, l22, l23, l24, l25, l27, l31, l32, l40, l46, l48, l50, l57, l59, l63, l86, l96, l97, l100, l110, l114, l122, l127, l200, l255, l300, l319, l320, l340, l441, l456, l580, l600, l800, l886, l1206, l1526, J_add, J_sub, J_mul, J_neg, J_lt, J_le, J_eq, jT, jF, iT, iF, eT, eF, aT, aF, ite_true, ite_false, ite_not, bs]) (by
    rintro k_ s ⟨g, rfl, -⟩
    show b_X6_add_52 o (r + 1) (J (Q 0)) (fun hz10 => j_X6_add_92 o (r + 1) (J (Q 0)) hz10) (fun v3q hq => k_ (v3q, hq)) (J 2) g = _
    simp (disch := omega) only [b_X6_add_52, lm8, lm2, lm1, l0, l1, l2, l3, l4, l5, l6, l7, l8, l9, l10, l11, l12, l13, l14, l15, l16, l17, l18, l19, l20, l21, l22, l23, l24, l25, l27, l31, l32, l40, l46, l48, l50, l57, l59, l63, l86, l96, l97, l100, l110, l114, l122, l127, l200, l255, l300, l319, l320, l340, l441, l456, l580, l600, l800, l886, l1206, l1526, J_add, J_sub, J_mul, J_neg, J_lt, J_le, J_eq, jT, jF, iT, iF, eT, eF, aT, aF, ite_true, ite_false, ite_not, bs])
  have e4 : l_X6_add_52 o (r + 1) (J (Q 0)) (fun hz10 => j_X6_add_92 o (r + 1) (J (Q 0)) hz10) (J 0) g3_ = j_X6_add_92 o (r + 1) (J (Q 0)) g4 := el
  rw [e4]
  have F04 := F03.trans (F4.mono (sub (o + 2) (by omega) (by omega)))
  -- the words
  obtain ⟨s, ⟨g5, rfl, F5, w1, w2⟩, el⟩ := loop_ex (body := fun (k_ : Int32 × Hp → Option Hp) (s : Int32 × Hp) => b_X6_add_94 o (r + 1) (J (Q 0)) (fun hz1 => j_X6_add_125 o (r + 1) (J (Q 0)) hz1) (fun v3q hq => k_ (v3q, hq)) s.1 s.2) (s := (J 0, g4)) (fun i s => ∃ g, s = (J i, g) ∧ FR (fun b _ => b = o + 4) g4 g ∧ (∀ j, 0 ≤ j → j < i → j < nwF B L f k → hE g (o + 4) (Q 0 * 4 + j) = wide (wnL B L f k j)) ∧ (∀ c, 0 ≤ c → c < Q 0 * 4 → hE g (o + 4) c = hE g4 (o + 4) c)) (fun s => j_X6_add_125 o (r + 1) (J (Q 0)) s.2) 4 (by omega) (by omega) ⟨g4, rfl, FR.refl _ _, fun j j0 j1 => by omega, fun c _ _ => rfl⟩ (by
    rintro k_ i s i0 i1 ⟨g, rfl, F, d1, d2⟩
    have F0 := F04.trans (F.mono (sub (o + 4) (by omega) (by omega)))
    have P' := lpf g F0
    have r7 : gfR g (r + 1) 5 7 = some (r + 1 + 3) := gfR_ok P'.1.1.1 P'.1.1.2.2.2.1.1
    obtain ⟨x, ex1, ex2, ex3⟩ : ∃ x : Int, m_X5_at (r + 1 + 3) (J i) g = some (J x) ∧ (-2147483648 ≤ x ∧ x < 2147483648) ∧ (i < nwF B L f k → x = wide (wnL B L f k i)) := by
      by_cases c : i < nwF B L f k
      · have e := P'.words W G.2.1 i0 c (by omega)
        have w := (W.ok G.2.1 i0 c).1
        refine ⟨_, e, ?_, fun _ => rfl⟩
        unfold wrg at w
        unfold wide
        repeat' split
        all_goals omega
      · exact ⟨_, X5_at_ok P'.1.1.2.2.2.1.2 (by omega) (by omega) (by omega), atE_rg _ _ _ _, fun q => absurd q c⟩
    obtain ⟨g', s1, F1, c1⟩ := set_any (h := g) (i := Q 0 * 4 + i) (z := x) (tq g F0).2.2.2.2.2 (by omega) (by omega) (by omega) ex2.1 ex2.2
    refine ⟨(J (i + 1), g'), ⟨g', rfl, F.trans F1, fun j j0 j1 j2 => ?_, fun c c0 c2 => ?_⟩, ?_⟩
    · rw [c1 _ _ (by omega)]
      by_cases q : j = i
      · rw [if_pos (by omega), q, ex3 (by omega)]
      · rw [if_neg (by omega), d1 j j0 (by omega) j2]
    · rw [c1 _ _ c0, if_neg (by omega), d2 c c0 c2]
    · show b_X6_add_94 o (r + 1) (J (Q 0)) (fun hz1 => j_X6_add_125 o (r + 1) (J (Q 0)) hz1) (fun v3q hq => k_ (v3q, hq)) (J i) g = _
      simp (disch := omega) only [b_X6_add_94, r4 g F0, r7, ex1, s1, lm8, lm2, lm1, l0, l1, l2, l3, l4, l5, l6, l7, l8, l9, l10, l11, l12, l13, l14, l15, l16, l17, l18, l19, l20, l21, l22, l23, l24, l25, l27, l31, l32, l40, l46, l48, l50, l57, l59, l63, l86, l96, l97, l100, l110, l114, l122, l127, l200, l255, l300, l319, l320, l340, l441, l456, l580, l600, l800, l886, l1206, l1526, J_add, J_sub, J_mul, J_neg, J_lt, J_le, J_eq, jT, jF, iT, iF, eT, eF, aT, aF, ite_true, ite_false, ite_not, bs]) (by
    rintro k_ s ⟨g, rfl, -⟩
    show b_X6_add_94 o (r + 1) (J (Q 0)) (fun hz1 => j_X6_add_125 o (r + 1) (J (Q 0)) hz1) (fun v3q hq => k_ (v3q, hq)) (J 4) g = _
    simp (disch := omega) only [b_X6_add_94, lm8, lm2, lm1, l0, l1, l2, l3, l4, l5, l6, l7, l8, l9, l10, l11, l12, l13, l14, l15, l16, l17, l18, l19, l20, l21, l22, l23, l24, l25, l27, l31, l32, l40, l46, l48, l50, l57, l59, l63, l86, l96, l97, l100, l110, l114, l122, l127, l200, l255, l300, l319, l320, l340, l441, l456, l580, l600, l800, l886, l1206, l1526, J_add, J_sub, J_mul, J_neg, J_lt, J_le, J_eq, jT, jF, iT, iF, eT, eF, aT, aF, ite_true, ite_false, ite_not, bs])
  have e5 : j_X6_add_92 o (r + 1) (J (Q 0)) g4 = j_X6_add_125 o (r + 1) (J (Q 0)) g5 := el
  rw [e5]
  have F05 := F04.trans (F5.mono (sub (o + 4) (by omega) (by omega)))
  have P5 := lpf g5 F05
  have kind5 : ∀ j, 0 ≤ j → hE g5 (o + 1) j = if j = Q 0 then k else hE h (o + 1) j := fun j j0 => by
    rw [F5.e (by omega), F4.e (by omega), F3.e (by omega), c2 _ _ j0, c1 _ _ j0, if_neg (show ¬ (o + 1 = o ∧ j = 0) by omega)]
    by_cases q : j = Q 0
    · rw [if_pos q, if_pos ⟨rfl, q, by omega⟩]
    · rw [if_neg q, if_neg (fun y => q y.2.1)]
  have cnt5 : ∀ j, 0 ≤ j → hE g5 (o + 3) j = if j = Q 0 then nwF B L f k else hE h (o + 3) j := fun j j0 => by
    rw [F5.e (by omega), F4.e (by omega), c3 _ _ j0, c2 _ _ j0, if_neg (show ¬ (o + 3 = o + 1 ∧ j = Q 0 ∧ Q 0 < ((8 : Nat) : Int)) by omega), c1 _ _ j0, if_neg (show ¬ (o + 3 = o ∧ j = 0) by omega)]
    by_cases q : j = Q 0
    · rw [if_pos q, if_pos ⟨rfl, q, by omega⟩]
    · rw [if_neg q, if_neg (fun y => q y.2.1)]
  have val5 : (∀ j, 0 ≤ j → j < 2 → hE g5 (o + 2) (Q 0 * 2 + j) = if j < nCk k then viF B L f k j else -1) ∧ ∀ c, 0 ≤ c → c < Q 0 * 2 → hE g5 (o + 2) c = hE h (o + 2) c := ⟨fun j j0 j1 => by rw [F5.e (by omega), d1 j j0 j1], fun c c0 c1_ => by
    rw [F5.e (by omega), d2 c c0 c1_, F3.e (by omega), F2.e (by omega), c1 _ _ c0, if_neg (by omega)]⟩
  have spe5 : ∀ c, 0 ≤ c → c < Q 0 * 4 → hE g5 (o + 4) c = hE h (o + 4) c := fun c c0 c1_ => by
    rw [w2 c c0 c1_, F4.e (by omega), F3.e (by omega), F2.e (by omega), c1 _ _ c0, if_neg (by omega)]
  have siz5 : hE g5 o 0 = Q 0 + 1 := by
    rw [F5.e (by omega), F4.e (by omega), F3.e (by omega), F2.e (by omega), c1 _ _ (by omega), if_pos ⟨rfl, rfl⟩]
  have fin : ∀ g, FR (fun b k => b = o + 2 ∧ (k : Int) = Q 0 * 2) g5 g → hE g (o + 2) (Q 0 * 2) = qaF B L f k → QA g o (stpQ B L Q f k) := fun g F hq => by
    refine ⟨by rw [F.1]; exact tq g5 F05, G.wf W H.2.1 k7, by rw [F.e (by omega), stpQ_0, siz5], fun j j0 j1 => ?_⟩
    rw [stpQ_0] at j1
    by_cases c : j < Q 0
    · obtain ⟨a1, a2, a3, a4, a5⟩ := stpQ_lo (B := B) (L := L) (f := f) (k := k) j0 c
      obtain ⟨b1, b2, b3, b4, b5⟩ := H.2.2.2 j j0 c
      have ct := H.2.1.cnt j0 c
      rw [a1, a2, a3, a4]
      refine ⟨?_, ?_, ?_, ?_, fun i i0 i1 => ?_⟩
      · rw [F.e (by omega), kind5 _ j0, if_neg (by omega), b1]
      · rw [F.e (by omega), val5.2 _ (by omega) (by omega), b2]
      · rw [F.e (by omega), val5.2 _ (by omega) (by omega), b3]
      · rw [F.e (by omega), cnt5 _ j0, if_neg (by omega), b4]
      · rw [F.e (by omega), spe5 _ (by omega) (by omega), b5 i i0 i1, a5 i i0 (by omega)]
    · have cj : j = Q 0 := by omega
      rw [cj, f1, stpQ_k q0.1, stpQ_a q0.1, stpQ_b q0.1]
      refine ⟨?_, ?_, ?_, ?_, fun i i0 i1 => ?_⟩
      · rw [F.e (by omega), kind5 _ q0.1, if_pos rfl]
      · rw [Int.add_zero]
        exact hq
      · rw [F.e (by omega), val5.1 1 (by omega) (by omega)]
        unfold qbF
        rw [f8]
        by_cases c6 : 6 ≤ k
        · rw [if_neg (show ¬ k = 0 by omega), if_pos c6, if_pos c6, if_pos (by omega)]
        · rw [if_neg c6, if_neg c6, if_neg (by split <;> omega)]
      · rw [F.e (by omega), cnt5 _ q0.1, if_pos rfl]
      · rw [F.e (by omega), w1 i i0 (by omega) i1, stpQ_w q0.1 i0 (by omega), if_pos i1]
  have e0 := P5.f0
  have v0 := val5.1 0 (by omega) (by omega)
  rw [Int.add_zero] at v0
  by_cases c : k = 0
  · rw [c] at e0
    have T5 := tq g5 F05
    have ew : m_X6_wordsOf o (J (Q 0)) g5 = some (J (nwF B L f k)) := by
      have : gfR g5 o 6 3 = some (o + 3) := r3 g5 F05
      unfold m_X6_wordsOf
      rw [this, bs, X5_at_ok T5.2.2.2.1.2 (by omega) (by omega) (by omega), bs, atE_in q0.1 (by omega), cnt5 _ q0.1, if_pos rfl]
    have s6 : m_X5_set (o + 2) (J (Q 0 * 2)) (J (nwF B L f k)) g5 = some (wE g5 (o + 2) (Q 0 * 2) (nwF B L f k)) := X5_set_ok T5.2.2.1.2 (by omega) (by omega) (by omega)
    have F6 : FR (fun b k => b = o + 2 ∧ (k : Int) = Q 0 * 2) g5 (wE g5 (o + 2) (Q 0 * 2) (nwF B L f k)) := FR.wE (A := fun b k => b = o + 2 ∧ (k : Int) = Q 0 * 2) ⟨rfl, by omega⟩
    refine ⟨_, ?_, F05.trans (F6.mono (fun b k q => sub (o + 2) (by omega) (by omega) b k q.1)), fin _ F6 ?_⟩
    · simp (disch := omega) only [j_X6_add_125, e0, r2 g5 F05, rc_ok T5.1, ew, s6, lm8, lm2, lm1, l0, l1, l2, l3, l4, l5, l6, l7, l8, l9, l10, l11, l12, l13, l14, l15, l16, l17, l18, l19, l20, l21, l22, l23, l24, l25, l27, l31, l32, l40, l46, l48, l50, l57, l59, l63, l86, l96, l97, l100, l110, l114, l122, l127, l200, l255, l300, l319, l320, l340, l441, l456, l580, l600, l800, l886, l1206, l1526, J_add, J_sub, J_mul, J_neg, J_lt, J_le, J_eq, jT, jF, iT, iF, eT, eF, aT, aF, ite_true, ite_false, ite_not, bs]
    · rw [hE_wE (by omega) (by omega) (by omega) (by omega), if_pos ⟨rfl, rfl⟩]
      unfold qaF
      rw [if_pos c]
  · have c' : k < 0 ∨ 0 < k := by omega
    refine ⟨g5, ?_, F05, fin g5 (FR.refl _ _) ?_⟩
    · simp (disch := first | omega | exact c') only [j_X6_add_125, e0, lm8, lm2, lm1, l0, l1, l2, l3, l4, l5, l6, l7, l8, l9, l10, l11, l12, l13, l14, l15, l16, l17, l18, l19, l20, l21, l22, l23, l24, l25, l27, l31, l32, l40, l46, l48, l50, l57, l59, l63, l86, l96, l97, l100, l110, l114, l122, l127, l200, l255, l300, l319, l320, l340, l441, l456, l580, l600, l800, l886, l1206, l1526, J_add, J_sub, J_mul, J_neg, J_lt, J_le, J_eq, jT, jF, iT, iF, eT, eF, aT, aF, ite_true, ite_false, ite_not, bs]
    · rw [v0, if_pos (f7 c)]
      unfold qaF
      rw [if_neg c]
end QS
