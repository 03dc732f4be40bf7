/-! PURE PART: a line read, the class, the rest -/
section RD2
variable {h h0 : Hp} {l a : Nat} {B : Int → Int} {L f k s : Int}
theorem mo_shL {k : Int} (h : moK k = true) : shL k = wOk k + wCk k := by
  unfold moK at h
  have := of_decide_eq_true h
  rcases this with q | q | q <;> · rw [q]; rfl
theorem en_rg (fL : f ≤ L) (f0 : 0 ≤ f) (hL : L ≤ 600) : 1 ≤ enF B L f k ∧ enF B L f k ≤ 700 := by
  have kr := kk_rg k
  have ex := ex_spec (B := B) (k := k) hL f0 fL
  have mi := mi_spec (B := B) (L := L) (f := f) (k := k)
  unfold enF
  split <;> omega
/-- further words, as many as come -/
theorem RI.more (R : RI h0 h l a B L f k (nCk k) (wCk k) (tkI B L f (1 + shL k))) (H : CT h0 a B L) (hal : a + 1 < l ∨ l + 4 < a) (fL : f ≤ L) (f0 : 0 ≤ f) : ∃ h', l_X4_read_152 l a (fun hz1 => j_X4_read_178 a hz1) (J (b01 (moK k))) (J 0) h = some (J (if ckF B L (tkI B L f (1 + shL k + exF B L f k)) = 3 then 2 else 1), h') ∧ RI h0 h' l a B L f k (nCk k) (nwF B L f k) (tkI B L f (1 + shL k + exF B L f k)) := by
  have kr := kk_rg k
  have hL2 := H.2.1.2.1
  obtain ⟨x0, x1, x2, x3, x4⟩ := ex_spec (B := B) (k := k) hL2 f0 fL
  unfold nwF
  generalize hx : exF B L f k = n at *
  have fin : ∀ g, RI h0 g l a B L f k (nCk k) (wCk k + n) (tkI B L f (1 + shL k + n)) → j_X4_read_178 a g = some (J (if ckF B L (tkI B L f (1 + shL k + n)) = 3 then 2 else 1), g) := fun g G => by
    have H' := G.ct H hal
    have e2 := H'.f2 G.2.2.2.2.2.1
    have cr := ck_rg (B := B) (L := L) (f := tkI B L f (1 + shL k + n))
    generalize ckF B L (tkI B L f (1 + shL k + n)) = c at *
    by_cases q : c = 3
    · rw [if_pos q]
      simp (disch := omega) only [j_X4_read_178, j_X4_read_191, e2, lm8, lm2, lm1, l0, l1, l2, l3, l4, l5, l6, l7, l8, l9, l10, l11, l12, l13, l14, l15, l16, l17, l18, l19, l20, l21, l22, l23, l24, l25, l27, l31, l32, l40, l46, l48, l50, l57, l59, l63, l86, l96, l97, l100, l110, l114, l122, l127, l200, l255, l300, l319, l320, l340, l441, l456, l580, l600, l800, l886, l1206, l1526, J_add, J_sub, J_mul, J_neg, J_lt, J_le, J_eq, jT, jF, iT, iF, eT, eF, aT, aF, ite_true, ite_false, ite_not, bs]
    · rw [if_neg q]
      have q2 : c < 3 ∨ 3 < c := by omega
      simp (disch := first | omega | exact q2) only [j_X4_read_178, j_X4_read_191, e2, lm8, lm2, lm1, l0, l1, l2, l3, l4, l5, l6, l7, l8, l9, l10, l11, l12, l13, l14, l15, l16, l17, l18, l19, l20, l21, l22, l23, l24, l25, l27, l31, l32, l40, l46, l48, l50, l57, l59, l63, l86, l96, l97, l100, l110, l114, l122, l127, l200, l255, l300, l319, l320, l340, l441, l456, l580, l600, l800, l886, l1206, l1526, J_add, J_sub, J_mul, J_neg, J_lt, J_le, J_eq, jT, jF, iT, iF, eT, eF, aT, aF, ite_true, ite_false, ite_not, bs]
  by_cases c : moK k = true
  · have hs := mo_shL c
    have cx := x3 c
    obtain ⟨s, hs2, el⟩ := loop_ex (body := fun (k_ : Int32 × Int32 × Hp → Option (Int32 × Hp)) (s : Int32 × Int32 × Hp) => b_X4_read_152 l a (fun hz1 => j_X4_read_178 a hz1) (fun v4q v5q hq => k_ (v4q, v5q, hq)) s.1 s.2.1 s.2.2) (s := (J (b01 (moK k)), J 0, h)) (fun i s => ∃ g, s = (J (if i ≤ n then 1 else 0), J i, g) ∧ RI h0 g l a B L f k (nCk k) (wCk k + if i ≤ n then i else n) (tkI B L f (1 + shL k + if i ≤ n then i else n))) (fun s => j_X4_read_178 a s.2.2) (n + 1) (by omega) (by omega) ⟨h, by rw [if_pos x0, c]; rfl, by rw [if_pos x0, Int.add_zero, Int.add_zero]; exact R⟩ (by
      rintro k_ i s i0 i1 ⟨g, rfl, G⟩
      rw [if_pos (show i ≤ n by omega)] at G
      rw [if_pos (show i ≤ n by omega)]
      have tr := tk_rg (B := B) (i := 1 + shL k + i) fL (by omega)
      by_cases q : i < n
      · obtain ⟨g', e, G'⟩ := G.word H hal fL f0 (by omega) (by omega) (by unfold wpF; rw [show 1 + wOk k + (wCk k + i) = 1 + shL k + i by omega]) (x2 i i0 q) (by omega) tr.2.1
        rw [show nxF B L (tkI B L f (1 + shL k + i)) = tkI B L f (1 + shL k + (i + 1)) by rw [show 1 + shL k + (i + 1) = (1 + shL k + i) + 1 by omega, tkI_succ (by omega)]] at G'
        refine ⟨(J 1, J (i + 1), g'), ⟨g', by rw [if_pos (by omega)], ?_⟩, ?_⟩
        · rw [if_pos (show i + 1 ≤ n by omega), show wCk k + (i + 1) = wCk k + i + 1 by omega]
          exact G'
        · show b_X4_read_152 l a (fun hz1 => j_X4_read_178 a hz1) (fun v4q v5q hq => k_ (v4q, v5q, hq)) (J 1) (J i) g = _
          simp (disch := omega) only [b_X4_read_152, rc_ok G.2.1.tag, e, lm8, lm2, lm1, l0, l1, l2, l3, l4, l5, l6, l7, l8, l9, l10, l11, l12, l13, l14, l15, l16, l17, l18, l19, l20, l21, l22, l23, l24, l25, l27, l31, l32, l40, l46, l48, l50, l57, l59, l63, l86, l96, l97, l100, l110, l114, l122, l127, l200, l255, l300, l319, l320, l340, l441, l456, l580, l600, l800, l886, l1206, l1526, J_add, J_sub, J_mul, J_neg, J_lt, J_le, J_eq, jT, jF, iT, iF, eT, eF, aT, aF, ite_true, ite_false, ite_not, bs]
      · have qn : i = n := by omega
        rw [qn] at G
        have cr := ck_rg (B := B) (L := L) (f := tkI B L f (1 + shL k + n))
        have e := X4_noWord (l := l) (G.ct H hal) G.2.2.2.2.2.1 cr cx
        refine ⟨(J 0, J (i + 1), g), ⟨g, by rw [if_neg (by omega)], ?_⟩, ?_⟩
        · rw [if_neg (by omega)]
          exact G
        · show b_X4_read_152 l a (fun hz1 => j_X4_read_178 a hz1) (fun v4q v5q hq => k_ (v4q, v5q, hq)) (J 1) (J i) g = _
          simp (disch := omega) only [b_X4_read_152, rc_ok G.2.1.tag, e, lm8, lm2, lm1, l0, l1, l2, l3, l4, l5, l6, l7, l8, l9, l10, l11, l12, l13, l14, l15, l16, l17, l18, l19, l20, l21, l22, l23, l24, l25, l27, l31, l32, l40, l46, l48, l50, l57, l59, l63, l86, l96, l97, l100, l110, l114, l122, l127, l200, l255, l300, l319, l320, l340, l441, l456, l580, l600, l800, l886, l1206, l1526, J_add, J_sub, J_mul, J_neg, J_lt, J_le, J_eq, jT, jF, iT, iF, eT, eF, aT, aF, ite_true, ite_false, ite_not, bs]) (by
      rintro k_ s ⟨g, rfl, G⟩
      rw [if_neg (by omega)]
      show b_X4_read_152 l a (fun hz1 => j_X4_read_178 a hz1) (fun v4q v5q hq => k_ (v4q, v5q, hq)) (J 0) (J (n + 1)) g = _
      by_cases q : 600 ≤ n + 1
      · simp (disch := omega) only [b_X4_read_152, lm8, lm2, lm1, l0, l1, l2, l3, l4, l5, l6, l7, l8, l9, l10, l11, l12, l13, l14, l15, l16, l17, l18, l19, l20, l21, l22, l23, l24, l25, l27, l31, l32, l40, l46, l48, l50, l57, l59, l63, l86, l96, l97, l100, l110, l114, l122, l127, l200, l255, l300, l319, l320, l340, l441, l456, l580, l600, l800, l886, l1206, l1526, J_add, J_sub, J_mul, J_neg, J_lt, J_le, J_eq, jT, jF, iT, iF, eT, eF, aT, aF, ite_true, ite_false, ite_not, bs]
      · simp (disch := omega) only [b_X4_read_152, lm8, lm2, lm1, l0, l1, l2, l3, l4, l5, l6, l7, l8, l9, l10, l11, l12, l13, l14, l15, l16, l17, l18, l19, l20, l21, l22, l23, l24, l25, l27, l31, l32, l40, l46, l48, l50, l57, l59, l63, l86, l96, l97, l100, l110, l114, l122, l127, l200, l255, l300, l319, l320, l340, l441, l456, l580, l600, l800, l886, l1206, l1526, J_add, J_sub, J_mul, J_neg, J_lt, J_le, J_eq, jT, jF, iT, iF, eT, eF, aT, aF, ite_true, ite_false, ite_not, bs])
    obtain ⟨g, rfl, G⟩ := hs2
    rw [if_neg (by omega)] at G
    exact ⟨g, by unfold l_X4_read_152; rw [el]; exact fin g G, G⟩
  · have n0 := x4 c
    have c' : moK k = false := by simpa using c
    refine ⟨h, ?_, by rw [n0, Int.add_zero, Int.add_zero]; exact R⟩
    rw [← fin h (by rw [n0, Int.add_zero, Int.add_zero]; exact R)]
    unfold l_X4_read_152
    refine loop_stop (fun k_ => ?_)
    rw [c']
    show b_X4_read_152 l a (fun hz1 => j_X4_read_178 a hz1) (fun v4q v5q hq => k_ (v4q, v5q, hq)) (J 0) (J 0) h = _
    simp (disch := omega) only [b_X4_read_152, lm8, lm2, lm1, l0, l1, l2, l3, l4, l5, l6, l7, l8, l9, l10, l11, l12, l13, l14, l15, l16, l17, l18, l19, l20, l21, l22, l23, l24, l25, l27, l31, l32, l40, l46, l48, l50, l57, l59, l63, l86, l96, l97, l100, l110, l114, l122, l127, l200, l255, l300, l319, l320, l340, l441, l456, l580, l600, l800, l886, l1206, l1526, J_add, J_sub, J_mul, J_neg, J_lt, J_le, J_eq, jT, jF, iT, iF, eT, eF, aT, aF, ite_true, ite_false, ite_not, bs]
theorem RI.j117 (R : RI h0 h l a B L f k (nCk k) (wCk k) (tkI B L f (1 + shL k))) (k0 : 0 ≤ k) (k1 : k < 15) : j_X4_read_117 l a h = l_X4_read_152 l a (fun hz1 => j_X4_read_178 a hz1) (J (b01 (moK k))) (J 0) h := by
  have e0 : gfI h l 5 0 = some (J k) := by rw [gfI_ok R.2.1.tag]; exact congrArg (fun z => some (J z)) R.2.2.1
  unfold moK
  by_cases c8 : k = 8
  · rw [decide_eq_true (by omega)]
    simp (disch := omega) only [j_X4_read_117, j_X4_read_147, e0, lm8, lm2, lm1, l0, l1, l2, l3, l4, l5, l6, l7, l8, l9, l10, l11, l12, l13, l14, l15, l16, l17, l18, l19, l20, l21, l22, l23, l24, l25, l27, l31, l32, l40, l46, l48, l50, l57, l59, l63, l86, l96, l97, l100, l110, l114, l122, l127, l200, l255, l300, l319, l320, l340, l441, l456, l580, l600, l800, l886, l1206, l1526, J_add, J_sub, J_mul, J_neg, J_lt, J_le, J_eq, jT, jF, iT, iF, eT, eF, aT, aF, ite_true, ite_false, ite_not, bs]
    rfl
  · have c8' : k < 8 ∨ 8 < k := by omega
    by_cases c9 : k = 9
    · rw [decide_eq_true (by omega)]
      simp (disch := first | omega | exact c8') only [j_X4_read_117, j_X4_read_147, e0, lm8, lm2, lm1, l0, l1, l2, l3, l4, l5, l6, l7, l8, l9, l10, l11, l12, l13, l14, l15, l16, l17, l18, l19, l20, l21, l22, l23, l24, l25, l27, l31, l32, l40, l46, l48, l50, l57, l59, l63, l86, l96, l97, l100, l110, l114, l122, l127, l200, l255, l300, l319, l320, l340, l441, l456, l580, l600, l800, l886, l1206, l1526, J_add, J_sub, J_mul, J_neg, J_lt, J_le, J_eq, jT, jF, iT, iF, eT, eF, aT, aF, ite_true, ite_false, ite_not, bs]
      rfl
    · have c9' : k < 9 ∨ 9 < k := by omega
      by_cases c0 : k = 0
      · rw [decide_eq_true (by omega)]
        simp (disch := first | omega | exact c8' | exact c9') only [j_X4_read_117, j_X4_read_147, e0, lm8, lm2, lm1, l0, l1, l2, l3, l4, l5, l6, l7, l8, l9, l10, l11, l12, l13, l14, l15, l16, l17, l18, l19, l20, l21, l22, l23, l24, l25, l27, l31, l32, l40, l46, l48, l50, l57, l59, l63, l86, l96, l97, l100, l110, l114, l122, l127, l200, l255, l300, l319, l320, l340, l441, l456, l580, l600, l800, l886, l1206, l1526, J_add, J_sub, J_mul, J_neg, J_lt, J_le, J_eq, jT, jF, iT, iF, eT, eF, aT, aF, ite_true, ite_false, ite_not, bs]
        rfl
      · have c0' : k < 0 ∨ 0 < k := by omega
        rw [decide_eq_false (by omega)]
        simp (disch := first | omega | exact c8' | exact c9' | exact c0') only [j_X4_read_117, j_X4_read_147, e0, lm8, lm2, lm1, l0, l1, l2, l3, l4, l5, l6, l7, l8, l9, l10, l11, l12, l13, l14, l15, l16, l17, l18, l19, l20, l21, l22, l23, l24, l25, l27, l31, l32, l40, l46, l48, l50, l57, l59, l63, l86, l96, l97, l100, l110, l114, l122, l127, l200, l255, l300, l319, l320, l340, l441, l456, l580, l600, l800, l886, l1206, l1526, J_add, J_sub, J_mul, J_neg, J_lt, J_le, J_eq, jT, jF, iT, iF, eT, eF, aT, aF, ite_true, ite_false, ite_not, bs]
        rfl
/-- a line read: its outcome, where the tape stands; of a whole line what it tells -/
theorem CL.read (T : TLn (top h) l) (H : CT h a B L) (hal : a + 1 < l ∨ l + 4 < a) {i : Int} (hi : hE h a 4 = i) (i0 : 0 ≤ i) (i1 : i ≤ L) (s0 : 0 ≤ s) (s1 : s ≤ 2) (hf : frF B L i = f) : ∃ h', m_X4_read l a (J s) h = some (J (loF B L s f), h') ∧ FR (ARd l a) h h' ∧ TP h' a B L (leF B L s f) ∧ (loF B L s f = 2 → 0 ≤ liK B L s f ∧ liK B L s f < 15 ∧ RI h h' l a B L f (liK B L s f) (nCk (liK B L s f)) (nwF B L f (liK B L s f)) (leF B L s f)) := by
  have hL2 := H.2.1.2.1
  have tg : ∀ g, TLn (top g) l → hTag g l = 5 := fun g T => T.1
  have w : ∀ (g : Hp) (c : Nat) (z : Int), TLn (top g) l → c ≤ 4 → pfI g l 5 c (J z) = some (wE g l c z) ∧ FR (Afl l c) g (wE g l c z) ∧ TLn (top (wE g l c z)) l := fun g c z Tg _ => ⟨pfI_ok (tg g Tg), frL, Tg⟩
  have sub : ∀ c, c ≤ 4 → ∀ b k, Afl l c b k → ARd l a b k := fun c hc b k q => Or.inl ⟨q.1, by have := q.2; omega⟩
  obtain ⟨p1, F1, T1⟩ := w h 2 0 T (by omega)
  generalize hg1 : wE h l ((2 : Nat) : Int) 0 = g1 at *
  have v12 : hE g1 l 2 = 0 := by rw [← hg1, hE_wE (by omega) (by omega) (by omega) (by omega), if_pos ⟨rfl, rfl⟩]
  obtain ⟨p2, F2, T2⟩ := w g1 3 0 T1 (by omega)
  generalize hg2 : wE g1 l ((3 : Nat) : Int) 0 = g2 at *
  have v23 : hE g2 l 3 = 0 := by rw [← hg2, hE_wE (by omega) (by omega) (by omega) (by omega), if_pos ⟨rfl, rfl⟩]
  obtain ⟨p3, F3, T3⟩ := w g2 4 (-1) T2 (by omega)
  generalize hg3 : wE g2 l ((4 : Nat) : Int) (-1) = g3 at *
  have v34 : hE g3 l 4 = -1 := by rw [← hg3, hE_wE (by omega) (by omega) (by omega) (by omega), if_pos ⟨rfl, rfl⟩]
  have F03 : FR (ARd l a) h g3 := ((F1.mono (sub 2 (by omega))).trans (F2.mono (sub 3 (by omega)))).trans (F3.mono (sub 4 (by omega)))
  have ctf : ∀ g, FR (ARd l a) h g → CT g a B L := fun g F => by
    refine H.frame F ?_ (fun k => ?_) <;> · unfold ARd ATk; omega
  have H3 := ctf g3 F03
  obtain ⟨g4, e4, F4, t42, t43, t44⟩ := H3.next (i := i) (by rw [F3.e (by unfold Afl; omega), F2.e (by unfold Afl; omega), F1.e (by unfold Afl; omega), hi]) i0 i1
  rw [hf] at t42 t43 t44
  have fr := fr_rg (B := B) i1
  rw [hf] at fr
  have F04 : FR (ARd l a) h g4 := F03.trans (F4.mono (fun b k q => Or.inr (Or.inr q)))
  have H4 := ctf g4 F04
  have T4 : TLn (top g4) l := by rw [F4.1]; exact T3
  obtain ⟨p5, F5, T5⟩ := w g4 1 f T4 (by omega)
  generalize hg5 : wE g4 l ((1 : Nat) : Int) f = g5 at *
  have v51 : hE g5 l 1 = f := by rw [← hg5, hE_wE (by omega) (by omega) (by omega) (by omega), if_pos ⟨rfl, rfl⟩]
  have F05 := F04.trans (F5.mono (sub 1 (by omega)))
  have H5 := ctf g5 F05
  have t52 : hE g5 a 2 = ckF B L f := by rw [F5.e (by unfold Afl; omega), t42]
  have t53 : hE g5 a 3 = f := by rw [F5.e (by unfold Afl; omega), t43]
  have t54 : hE g5 a 4 = toF B L f := by rw [F5.e (by unfold Afl; omega), t44]
  have cr := ck_rg (B := B) (L := L) (f := f)
  have tr := to_rg (B := B) fr.2
  have q4 := H4.f3 t43
  have q5 := H5.f2 t52
  have hd : m_X4_read l a (J s) h = if ¬ J (ckF B L f) = 0 then ((m_X4_kindOf a (J s) g5).bind fun x4 => (pfI g5 l 5 0 x4).bind fun hh5 => (gfI hh5 l 5 0).bind fun x5 => if ¬ x5 = (-1 : Int32) then ((rc hh5 a 10 (m_X10_next a hh5)).bind fun x6 => (gfI x6 l 5 0).bind fun x7 => (m_X4_shapeOf x7 x6).bind fun x8 => l_X4_read_70 l a x8 (fun hz9 => j_X4_read_98 hz9) (fun hz10 => j_X4_read_117 l a hz10) (0 : Int32) x6) else some ((1 : Int32), hh5)) else some ((0 : Int32), g5) := by
    unfold m_X4_read
    rw [show (0 : Int32) = J 0 from rfl, p1, bs, p2, bs, show (-1 : Int32) = J (-1) from rfl, p3, bs, rc_ok H3.tag, e4, bs, q4, bs, p5, bs, q5, bs]
  rw [hd]
  unfold loF leF
  by_cases c0 : ckF B L f = 0
  · rw [if_pos c0, if_pos c0]
    refine ⟨g5, ?_, F05, ⟨t52, t53, t54⟩, fun q => by omega⟩
    rw [c0]
    exact if_neg (fun q => q rfl)
  · rw [if_neg c0, if_neg c0]
    have ek := H5.kindOf (s := s) t52 t53 t54 cr (by omega) (by omega) tr.1 s0 s1
    rw [show kiF B (ckF B L f) f (toF B L f) s = liK B L s f from rfl] at ek
    have kr : liK B L s f = -1 ∨ (0 ≤ liK B L s f ∧ liK B L s f < 15) := by
      unfold liK kiF
      rcases fiZ_spec 15 (fun k => decide (soK k = s) && (decide (ckF B L f = 1) && kwB B f (toF B L f) k)) with ⟨e1, _⟩ | ⟨e1, e2, _⟩
      · exact Or.inl e1
      · exact Or.inr ⟨e1, e2⟩
    generalize hk : liK B L s f = k at *
    obtain ⟨p6, F6, T6⟩ := w g5 0 k T5 (by omega)
    generalize hg6 : wE g5 l ((0 : Nat) : Int) k = g6 at *
    have v60 : hE g6 l 0 = k := by rw [← hg6, hE_wE (by omega) (by omega) (by omega) (by omega), if_pos ⟨rfl, rfl⟩]
    have F06 := F05.trans (F6.mono (sub 0 (by omega)))
    have H6 := ctf g6 F06
    have q6 : gfI g6 l 5 0 = some (J k) := by rw [gfI_ok (tg g6 T6)]; exact congrArg (fun z => some (J z)) v60
    rw [if_pos (by rw [show (0 : Int32) = J 0 from rfl, J_eq (by omega) (by omega) (by omega) (by omega)]; exact c0), ek, bs, p6, bs, q6, bs]
    by_cases c1 : k = -1
    · rw [if_pos c1, if_pos c1]
      refine ⟨g6, ?_, F06, ⟨?_, ?_, ?_⟩, fun q => by omega⟩
      · rw [c1]
        exact if_neg (fun q => q rfl)
      · rw [F6.e (by unfold Afl; omega), t52]
      · rw [F6.e (by unfold Afl; omega), t53]
      · rw [F6.e (by unfold Afl; omega), t54]
    · rw [if_neg c1, if_neg c1]
      have k0 : 0 ≤ k := by omega
      have k1 : k < 15 := by omega
      rw [if_pos (by rw [show (-1 : Int32) = J (-1) from rfl, J_eq (by omega) (by omega) (by omega) (by omega)]; exact c1)]
      obtain ⟨g7, e7, F7, t72, t73, t74⟩ := H6.next (i := toF B L f) (by rw [F6.e (by unfold Afl; omega), t54]) (by omega) tr.2.1
      have F07 : FR (ARd l a) h g7 := F06.trans (F7.mono (fun b k q => Or.inr (Or.inr q)))
      have T7 : TLn (top g7) l := by rw [F7.1]; exact T6
      have v70 : hE g7 l 0 = k := by rw [F7.e (by unfold ATk; omega), v60]
      have q7 : gfI g7 l 5 0 = some (J k) := by rw [gfI_ok (tg g7 T7)]; exact congrArg (fun z => some (J z)) v70
      have up : ∀ c : Nat, c ≤ 4 → c ≠ 0 → hE g7 l c = hE g5 l c := fun c hc h0 => by
        rw [F7.e (by unfold ATk; omega), F6.e (by unfold Afl; omega)]
      have up2 : ∀ c : Nat, 2 ≤ c → c ≤ 4 → hE g7 l c = hE g3 l c := fun c hc h0 => by
        rw [up c (by omega) (by omega), F5.e (by unfold Afl; omega), F4.e (by unfold ATk; omega)]
      have R : RI h g7 l a B L f k 0 0 (tkI B L f 1) := by
        refine ⟨F07, ⟨T7, ⟨by omega, by omega⟩, ⟨by omega, by omega⟩, ?_, ?_, fun i i0 i1 => by omega, fun i i0 i1 _ => by omega⟩, v70, ?_, ?_, t72, t73, t74⟩
        · rw [show hE g7 l 2 = hE g3 l 2 from up2 2 (by omega) (by omega), F3.e (by unfold Afl; omega), F2.e (by unfold Afl; omega), v12]
        · rw [show hE g7 l 3 = hE g3 l 3 from up2 3 (by omega) (by omega), F3.e (by unfold Afl; omega), v23]
        · rw [show hE g7 l 1 = hE g5 l 1 from up 1 (by omega) (by omega), v51]
        · rw [show hE g7 l 4 = hE g3 l 4 from up2 4 (by omega) (by omega), v34]
          rfl
      rw [rc_ok H6.tag, e7, bs, q7, bs, X4_shapeOf_ok k0 k1, bs]
      obtain ⟨g8, e8, m1, m2⟩ := R.items (K := fun hz10 => j_X4_read_117 l a hz10) H hal fr.2 (by omega) k0 k1
      rw [show (0 : Int32) = J 0 from rfl, e8]
      by_cases cm : miF B L f k = -1
      · have R8 := m2 cm
        obtain ⟨g9, e9, R9⟩ := R8.more H hal fr.2 (by omega)
        have en : enF B L f k = 1 + shL k + exF B L f k := by unfold enF; rw [if_pos cm]
        rw [if_pos cm, en]
        refine ⟨g9, ?_, R9.1, R9.2.2.2.2.2, fun _ => ⟨k0, k1, R9⟩⟩
        show j_X4_read_117 l a g8 = _
        rw [R8.j117 k0 k1, e9]
        by_cases q : ckF B L (tkI B L f (1 + shL k + exF B L f k)) = 3
        · rw [if_pos q, if_pos ⟨cm, q⟩]
        · rw [if_neg q, if_neg (fun y => q y.2)]
      · have en : enF B L f k = 1 + miF B L f k := by unfold enF; rw [if_neg cm]
        rw [if_neg cm, en, if_neg (fun y => cm y.1)]
        exact ⟨g8, rfl, (m1 cm).1, (m1 cm).2, fun q => by omega⟩
end RD2
