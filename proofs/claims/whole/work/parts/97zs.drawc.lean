/-! PURE PART: drawn archives, the class -/
def Dw (y b : Nat) (_ : Nat) : Prop := y ≤ b ∧ b ≤ y + 11
/-- the class's Drawing at y has T in hand, seed s -/
def DRy (h : Hp) (y : Nat) (T : Int → Int) (s : Int) : Prop := TDr (top h) y ∧ CA h (y + 1) T ∧ hE h y 2 = s
section DRC
variable {h : Hp} {y o : Nat} {T : Int → Int} {s d n dt k : Int}
theorem CA.first (H : CA h o T) (d0 : 0 ≤ d) (d1 : d < 4) : m_X0_firstTokenOf o (J d) h = some (J (fstT T d)) := by
  have n5 := H.wf.n5
  have n0 := H.wf.n0
  have f1 := H.f1
  unfold m_X0_firstTokenOf l_X0_firstTokenOf_2 fstT
  refine loop_find (fun i => J i) (T 5) (fun t => decide (owT T t = d)) (fun r => some (J r)) n5.1 (by omega) rfl (fun k i i0 i1 p => ?_) (fun k i i0 i1 p => ?_) (fun k => ?_)
  · have p' : owT T i ≠ d := of_decide_eq_false p
    have rg := H.wf.2.2.2.2.2.2.2 i i0 i1
    show b_X0_firstTokenOf_2 o (J d) h (fun v2q => k v2q) (J i) = _
    simp (disch := omega) only [b_X0_firstTokenOf_2, f1, rc_ok H.tag, H.ownerOf i0 i1, lm8, lm2, lm1, l0, l1, l2, l3, l4, l5, l6, l7, l8, l9, l10, l11, l12, l13, l14, l15, l16, l17, l18, l19, l20, l21, l22, l23, l24, l25, l27, l31, l32, l40, l46, l48, l50, l57, l59, l63, l86, l96, l97, l100, l110, l114, l122, l127, l200, l255, l300, l319, l320, l340, l441, l456, l580, l600, l800, l886, l1206, l1526, J_add, J_sub, J_mul, J_neg, J_lt, J_le, J_eq, jT, jF, iT, iF, eT, eF, aT, aF, ite_true, ite_false, ite_not, bs]
  · have p' : owT T i = d := of_decide_eq_true p
    show b_X0_firstTokenOf_2 o (J d) h (fun v2q => k v2q) (J i) = _
    simp (disch := omega) only [b_X0_firstTokenOf_2, f1, rc_ok H.tag, H.ownerOf i0 i1, lm8, lm2, lm1, l0, l1, l2, l3, l4, l5, l6, l7, l8, l9, l10, l11, l12, l13, l14, l15, l16, l17, l18, l19, l20, l21, l22, l23, l24, l25, l27, l31, l32, l40, l46, l48, l50, l57, l59, l63, l86, l96, l97, l100, l110, l114, l122, l127, l200, l255, l300, l319, l320, l340, l441, l456, l580, l600, l800, l886, l1206, l1526, J_add, J_sub, J_mul, J_neg, J_lt, J_le, J_eq, jT, jF, iT, iF, eT, eF, aT, aF, ite_true, ite_false, ite_not, bs]
  · show b_X0_firstTokenOf_2 o (J d) h (fun v2q => k v2q) (J (T 5)) = _
    simp (disch := omega) only [b_X0_firstTokenOf_2, f1, lm8, lm2, lm1, l0, l1, l2, l3, l4, l5, l6, l7, l8, l9, l10, l11, l12, l13, l14, l15, l16, l17, l18, l19, l20, l21, l22, l23, l24, l25, l27, l31, l32, l40, l46, l48, l50, l57, l59, l63, l86, l96, l97, l100, l110, l114, l122, l127, l200, l255, l300, l319, l320, l340, l441, l456, l580, l600, l800, l886, l1206, l1526, J_add, J_sub, J_mul, J_neg, J_lt, J_le, J_eq, jT, jF, iT, iF, eT, eF, aT, aF, ite_true, ite_false, ite_not, bs]
theorem DRy.tag (D : DRy h y T s) : hTag h y = 2 := D.1.1
theorem DRy.r0 (D : DRy h y T s) : gfR h y 2 0 = some (y + 1) := gfR_ok D.1.1 D.1.2.1.1
theorem DRy.r1 (D : DRy h y T s) : gfR h y 2 1 = some (y + 11) := gfR_ok D.1.1 D.1.2.2.1
theorem DRy.frame2 {h' : Hp} (D : DRy h y T s) (F : FR (fun b k => b = y ∧ k = 2) h h') (e : hE h' y 2 = n) : DRy h' y T n := by
  refine ⟨by rw [F.1]; exact D.1, ?_, e⟩
  refine D.2.1.frame F ?_ ?_ (fun k => ?_) (fun k => ?_) (fun k => ?_) (fun k => ?_) (fun k => ?_) (fun k => ?_) <;> omega
theorem DRy.below (D : DRy h y T s) (n0 : 0 < n) (n1 : n < 100000) : ∃ g, m_X1_below y (J n) h = some (J (dwV (dwN s) n), g) ∧ FR (Dw y) h g ∧ DRy g y T (dwN s) := by
  have f2 : gfI h y 2 2 = some (J s) := by
    rw [gfI_ok D.tag]
    exact congrArg (fun z => some (J z)) D.2.2
  have p2 : pfI h y 2 2 (J (dwN s)) = some (wE h y 2 (dwN s)) := pfI_ok (k := 2) D.tag
  have F : FR (fun b k => b = y ∧ k = 2) h (wE h y 2 (dwN s)) := FR.wE (A := fun b k => b = y ∧ k = 2) ⟨rfl, rfl⟩
  have e : hE (wE h y 2 (dwN s)) y 2 = dwN s := by rw [hE_wE (by omega) (by omega) (dwN_rg s).1 (dwN_rg s).2, if_pos ⟨rfl, rfl⟩]
  generalize wE h y 2 (dwN s) = g at *
  have D2 := D.frame2 F e
  have f3 : gfI g y 2 2 = some (J (dwN s)) := by
    rw [gfI_ok D2.tag]
    exact congrArg (fun z => some (J z)) D2.2.2
  have rm : rmI (iushrF (J (dwN s)) (16 : Int32)) (J n) = some (J (dwV (dwN s) n)) := by
    unfold rmI
    rw [if_neg (show ¬ J n = 0 by rw [show (0 : Int32) = J 0 from rfl, J_eq (by omega) (by omega) (by omega) (by omega)]; omega), dwV_J]
  refine ⟨g, ?_, F.mono (fun b k q => by unfold Dw; omega), D2⟩
  unfold m_X1_below
  rw [f2, bs, dwN_J, p2, bs, if_neg (show ¬ J n ≤ 0 by rw [show (0 : Int32) = J 0 from rfl, J_le (by omega) (by omega) (by omega) (by omega)]; omega), f3, bs, rm, bs]
  rfl
theorem DRy.may (D : DRy h y T s) (d0 : 0 ≤ d) (d1 : d < T 0) : m_X1_mayGoOn y (J d) h = some (J (b01 (decide (T (1 + d) < 10)))) := by
  obtain ⟨hv, hl, hn⟩ := D.2.1.wf.last d0 d1
  have n0 := D.2.1.wf.n0
  have tg := D.2.1.tag
  by_cases c : T (1 + d) < 10
  · rw [decide_eq_true c]
    simp (disch := omega) only [m_X1_mayGoOn, j_X1_mayGoOn_18, D.r0, rc_ok tg, D.2.1.versionsOf, zb1, lm8, lm2, lm1, l0, l1, l2, l3, l4, l5, l6, l7, l8, l9, l10, l11, l12, l13, l14, l15, l16, l17, l18, l19, l20, l21, l22, l23, l24, l25, l27, l31, l32, l40, l46, l48, l50, l57, l59, l63, l86, l96, l97, l100, l110, l114, l122, l127, l200, l255, l300, l319, l320, l340, l441, l456, l580, l600, l800, l886, l1206, l1526, J_add, J_sub, J_mul, J_neg, J_lt, J_le, J_eq, jT, jF, iT, iF, eT, eF, aT, aF, ite_true, ite_false, ite_not, bs]
    rfl
  · rw [decide_eq_false c]
    simp (disch := omega) only [m_X1_mayGoOn, j_X1_mayGoOn_18, D.r0, rc_ok tg, D.2.1.versionsOf, zb0, lm8, lm2, lm1, l0, l1, l2, l3, l4, l5, l6, l7, l8, l9, l10, l11, l12, l13, l14, l15, l16, l17, l18, l19, l20, l21, l22, l23, l24, l25, l27, l31, l32, l40, l46, l48, l50, l57, l59, l63, l86, l96, l97, l100, l110, l114, l122, l127, l200, l255, l300, l319, l320, l340, l441, l456, l580, l600, l800, l886, l1206, l1526, J_add, J_sub, J_mul, J_neg, J_lt, J_le, J_eq, jT, jF, iT, iF, eT, eF, aT, aF, ite_true, ite_false, ite_not, bs]
    rfl
theorem DRy.made {h' : Hp} {T' : Int → Int} {sl : Int} (D : DRy h y T s) (F : FR (ABd (y + 1) sl) h h') (C : CA h' (y + 1) T') : DRy h' y T' s := by
  refine ⟨by rw [F.1]; exact D.1, C, ?_⟩
  rw [F.e (fun q => by unfold ABd at q; omega), D.2.2]
theorem ABd_Dw {sl : Int} {b k : Nat} (q : ABd (y + 1) sl b k) : Dw y b k := by
  unfold ABd at q
  unfold Dw
  omega
theorem DRy.cut (D : DRy h y T s) (d0 : 0 ≤ d) (d1 : d < T 0) (c : 0 < lnT T d (T (1 + d) - 1)) : ∃ g, m_X1_cut y (J d) h = some g ∧ FR (Dw y) h g ∧ DRy g y (if 10 ≤ T (1 + d) then T else mkT T 0 d 0 (fun _ => 0) (lnT T d (T (1 + d) - 1) - 1) (rCut T d (T (1 + d) - 1) (dwV (dwN s) (lnT T d (T (1 + d) - 1))) 1) dt) (dwN s) := by
  have W := D.2.1.wf
  obtain ⟨hv, hl, hn⟩ := W.last d0 d1
  have tg := D.2.1.tag
  have e1 := D.2.1.latestLengthT d0 d1
  obtain ⟨g, e2, F, D2⟩ := D.below c (by omega)
  have v := dwV_rg (z := dwN s) c (by omega)
  have tg2 := D2.2.1.tag
  have e3 := D2.may d0 d1
  by_cases c4 : 10 ≤ T (1 + d)
  · rw [if_pos c4]
    rw [decide_eq_false (show ¬ T (1 + d) < 10 by omega)] at e3
    refine ⟨g, ?_, F, D2⟩
    unfold m_X1_cut
    rw [D.r0, bs, rc_ok tg, e1, bs, rc_ok D.tag, e2, bs, rc_ok D2.tag, e3, bs, if_pos (by rfl)]
  · rw [if_neg c4]
    rw [decide_eq_true (show T (1 + d) < 10 by omega)] at e3
    obtain ⟨g2, e4, F4, C4, -⟩ := D2.2.1.cutWords (ws := fun _ => 0) (p := dwV (dwN s) (lnT T d (T (1 + d) - 1))) (c := 1) (dt := -1) hv (by omega) v.1 (by omega) (by omega) (by omega) (by omega)
    have C5 := CA.dated (dt' := dt) W (VK_cut W hv (by omega) v.1 (by omega) (by omega)) C4
    refine ⟨g2, ?_, F.trans (F4.mono (fun b k => ABd_Dw)), D2.made F4 C5⟩
    unfold m_X1_cut
    rw [D.r0, bs, rc_ok tg, e1, bs, rc_ok D.tag, e2, bs, rc_ok D2.tag, e3, bs, if_neg (by decide), D2.r0, bs, rc_ok tg2]
    show (m_X0_cutWords (y + 1) (J d) (J (dwV (dwN s) (lnT T d (T (1 + d) - 1)))) (J 1) (J (-1)) g).bind _ = _
    rw [e4, bs]
theorem DRy.move (D : DRy h y T s) (d0 : 0 ≤ d) (d1 : d < T 0) (c : 0 < lnT T d (T (1 + d) - 1)) : ∃ g, m_X1_move y (J d) h = some g ∧ FR (Dw y) h g ∧ DRy g y (if 10 ≤ T (1 + d) then T else mkT T 0 d 0 (fun _ => 0) (lnT T d (T (1 + d) - 1)) (rMov T d (T (1 + d) - 1) (dwV (dwN s) (lnT T d (T (1 + d) - 1))) (dwV (dwN (dwN s)) (lnT T d (T (1 + d) - 1)))) dt) (dwN (dwN s)) := by
  have W := D.2.1.wf
  obtain ⟨hv, hl, hn⟩ := W.last d0 d1
  have tg := D.2.1.tag
  have e1 := D.2.1.latestLengthT d0 d1
  obtain ⟨g1, e2, F1, D1⟩ := D.below c (by omega)
  obtain ⟨g, e2', F2, D2⟩ := D1.below c (by omega)
  have F := F1.trans F2
  have v := dwV_rg (z := dwN s) c (by omega)
  have w := dwV_rg (z := dwN (dwN s)) c (by omega)
  have tg2 := D2.2.1.tag
  have e3 := D2.may d0 d1
  by_cases c4 : 10 ≤ T (1 + d)
  · rw [if_pos c4]
    rw [decide_eq_false (show ¬ T (1 + d) < 10 by omega)] at e3
    refine ⟨g, ?_, F, D2⟩
    unfold m_X1_move
    rw [D.r0, bs, rc_ok tg, e1, bs, rc_ok D.tag, e2, bs, rc_ok D1.tag, e2', bs, rc_ok D2.tag, e3, bs, if_pos (by rfl)]
  · rw [if_neg c4]
    rw [decide_eq_true (show T (1 + d) < 10 by omega)] at e3
    obtain ⟨g2, e4, F4, C4, -⟩ := D2.2.1.moveWord (ws := fun _ => 0) (a := dwV (dwN s) (lnT T d (T (1 + d) - 1))) (b := dwV (dwN (dwN s)) (lnT T d (T (1 + d) - 1))) (dt := -1) hv (by omega) v.1 v.2 w.1 w.2 (by omega) (by omega)
    have C5 := CA.dated (dt' := dt) W (VK_mov W hv (by omega) v.1 v.2 w.1 w.2) C4
    refine ⟨g2, ?_, F.trans (F4.mono (fun b k => ABd_Dw)), D2.made F4 C5⟩
    unfold m_X1_move
    rw [D.r0, bs, rc_ok tg, e1, bs, rc_ok D.tag, e2, bs, rc_ok D1.tag, e2', bs, rc_ok D2.tag, e3, bs, if_neg (by decide), D2.r0, bs, rc_ok tg2]
    show (m_X0_moveWord (y + 1) (J d) (J (dwV (dwN s) (lnT T d (T (1 + d) - 1)))) (J (dwV (dwN (dwN s)) (lnT T d (T (1 + d) - 1)))) (J (-1)) g).bind _ = _
    rw [e4, bs]
theorem DRy.back (D : DRy h y T s) (d0 : 0 ≤ d) (d1 : d < T 0) : ∃ g, m_X1_back y (J d) h = some g ∧ FR (Dw y) h g ∧ DRy g y (if 10 ≤ T (1 + d) then T else mkT T 0 d 0 (fun _ => 0) (lnT T d (dwV (dwN s) (T (1 + d)))) (fun q => rwT T d (dwV (dwN s) (T (1 + d))) q) dt) (dwN s) := by
  have W := D.2.1.wf
  obtain ⟨hv, hl, hn⟩ := W.last d0 d1
  have n0 := W.n0
  have tg := D.2.1.tag
  have e1 := D.2.1.versionsOf d0 (show d < 4 by omega)
  obtain ⟨g, e2, F, D2⟩ := D.below (n := T (1 + d)) (by omega) (by omega)
  have v := dwV_rg (z := dwN s) (n := T (1 + d)) (by omega) (by omega)
  have hv2 : vvT T d (dwV (dwN s) (T (1 + d))) := ⟨d0, d1, v.1, v.2⟩
  have tg2 := D2.2.1.tag
  have e3 := D2.may d0 d1
  by_cases c4 : 10 ≤ T (1 + d)
  · rw [if_pos c4]
    rw [decide_eq_false (show ¬ T (1 + d) < 10 by omega)] at e3
    refine ⟨g, ?_, F, D2⟩
    unfold m_X1_back
    rw [D.r0, bs, rc_ok tg, e1, bs, rc_ok D.tag, e2, bs, rc_ok D2.tag, e3, bs, if_pos (by rfl)]
  · rw [if_neg c4]
    rw [decide_eq_true (show T (1 + d) < 10 by omega)] at e3
    obtain ⟨g2, e4, F4, C4, -⟩ := D2.2.1.goBack (ws := fun _ => 0) (dt := -1) hv2 (by omega) (by omega) (by omega)
    have C5 := CA.dated (dt' := dt) W (VK_bck W hv2 (by omega)) C4
    refine ⟨g2, ?_, F.trans (F4.mono (fun b k => ABd_Dw)), D2.made F4 C5⟩
    unfold m_X1_back
    rw [D.r0, bs, rc_ok tg, e1, bs, rc_ok D.tag, e2, bs, rc_ok D2.tag, e3, bs, if_neg (by decide), D2.r0, bs, rc_ok tg2]
    show (m_X0_goBack (y + 1) (J d) (J (dwV (dwN s) (T (1 + d)))) (J (-1)) g).bind _ = _
    rw [e4, bs]
theorem DRy.put (D : DRy h y T s) (h5 : T 5 ≤ 318) (d0 : 0 ≤ d) (d1 : d < T 0) (c : fstT T d ≠ -1) : ∃ g, m_X1_put y (J d) h = some g ∧ FR (Dw y) h g ∧ DRy g y (if 10 ≤ T (1 + d) then T else if 20 ≤ lnT T d (T (1 + d) - 1) then T else mkT T 0 d 1 (fun _ => wdT T (fstT T d)) (lnT T d (T (1 + d) - 1) + 1) (rPut T d (T (1 + d) - 1) (dwV (dwN s) (lnT T d (T (1 + d) - 1) + 1)) 1) dt) (dwN s) := by
  have W := D.2.1.wf
  obtain ⟨hv, hl, hn⟩ := W.last d0 d1
  have n0 := W.n0
  have tg := D.2.1.tag
  have ft := (fst_rg (T := T) (d := d)).resolve_left c
  have e1 := D.2.1.latestLengthT d0 d1
  obtain ⟨g, e2, F, D2⟩ := D.below (n := lnT T d (T (1 + d) - 1) + 1) (by omega) (by omega)
  have e2' : m_X1_below y (J (lnT T d (T (1 + d) - 1)) + (1 : Int32)) h = some (J (dwV (dwN s) (lnT T d (T (1 + d) - 1) + 1)), g) := by
    rw [show (1 : Int32) = J 1 from rfl, J_add, e2]
  have v := dwV_rg (z := dwN s) (n := lnT T d (T (1 + d) - 1) + 1) (by omega) (by omega)
  have tg2 := D2.2.1.tag
  have e3 := D2.may d0 d1
  by_cases c4 : 10 ≤ T (1 + d)
  · rw [if_pos c4]
    rw [decide_eq_false (show ¬ T (1 + d) < 10 by omega)] at e3
    refine ⟨g, ?_, F, D2⟩
    unfold m_X1_put
    rw [D.r0, bs, rc_ok tg, e1, bs, rc_ok D.tag, e2', bs, rc_ok D2.tag, e3, bs, if_pos (by rfl)]
  · rw [if_neg c4]
    rw [decide_eq_true (show T (1 + d) < 10 by omega)] at e3
    by_cases c5 : 20 ≤ lnT T d (T (1 + d) - 1)
    · rw [if_pos c5]
      refine ⟨g, ?_, F, D2⟩
      unfold m_X1_put
      rw [D.r0, bs, rc_ok tg, e1, bs, rc_ok D.tag, e2', bs, rc_ok D2.tag, e3, bs, if_neg (by decide), if_pos (show (20 : Int32) ≤ J (lnT T d (T (1 + d) - 1)) by rw [show (20 : Int32) = J 20 from rfl, J_le (by omega) (by omega) (by omega) (by omega)]; exact c5)]
    · rw [if_neg c5]
      have C2 := D2.2.1
      have wg := W.wf_wrg ft.1 ft.2
      have wd := wide_rg wg.1 wg.2.1
      have q7 : gfR g (y + 1) 1 7 = some (y + 6) := gfR_ok C2.tag C2.1.2.2.2.2.2.1.1
      have q1 := C2.first d0 (show d < 4 by omega)
      have q2 : m_X5_at (y + 6) (J (fstT T d)) g = some (J (wide (wdT T (fstT T d)))) := C2.spell ft.1 ft.2
      have ti : TI (top g) (y + 11) 1 := D2.1.2.2.2
      have q3 : m_X5_set (y + 11) (J 0) (J (wide (wdT T (fstT T d)))) g = some (wE g (y + 11) 0 (wide (wdT T (fstT T d)))) := X5_set_ok ti (by omega) (by omega) (by omega)
      have F3 : FR (fun b k => b = y + 11 ∧ k = 0) g (wE g (y + 11) 0 (wide (wdT T (fstT T d)))) := FR.wE (A := fun b k => b = y + 11 ∧ k = 0) ⟨rfl, rfl⟩
      have z3 : hE (wE g (y + 11) 0 (wide (wdT T (fstT T d)))) (y + 11) 0 = wide (wdT T (fstT T d)) := by rw [hE_wE (by omega) (by omega) (by omega) (by omega), if_pos ⟨rfl, rfl⟩]
      generalize wE g (y + 11) 0 (wide (wdT T (fstT T d))) = g3 at *
      have D3 : DRy g3 y T (dwN s) := by
        refine ⟨by rw [F3.1]; exact D2.1, ?_, by rw [F3.e (by omega), D2.2.2]⟩
        refine D2.2.1.frame F3 ?_ ?_ (fun k => ?_) (fun k => ?_) (fun k => ?_) (fun k => ?_) (fun k => ?_) (fun k => ?_) <;> omega
      obtain ⟨g2, e4, F4, C4, -⟩ := D3.2.1.putWords (ws := fun _ => wdT T (fstT T d)) (a := y + 11) (p := dwV (dwN s) (lnT T d (T (1 + d) - 1) + 1)) (w := 1) (dt := -1) hv (by omega) v.1 (by omega) (by omega) (by omega) (by omega) (fun i _ _ => wg) (fun h' F' i i0 i1 => by
        have ti' : TI (top h') (y + 11) 1 := by rw [F'.1, F3.1]; exact ti
        rw [X5_at_ok ti' (by omega) (by omega) (by omega), atE_in i0 (by omega), show i = 0 by omega, F'.e (fun q => by unfold ABd at q; omega), z3]) (by omega) (by omega)
      have C5 := CA.dated (dt' := dt) W (VK_put W hv (by omega) v.1 (by omega) (by omega) (by omega) (by omega) (fun i _ _ => wg)) C4
      refine ⟨g2, ?_, (F.trans (F3.mono (fun b k q => by unfold Dw; omega))).trans (F4.mono (fun b k => ABd_Dw)), D3.made F4 C5⟩
      unfold m_X1_put
      rw [D.r0, bs, rc_ok tg, e1, bs, rc_ok D.tag, e2', bs, rc_ok D2.tag, e3, bs, if_neg (by decide), if_neg (show ¬ (20 : Int32) ≤ J (lnT T d (T (1 + d) - 1)) by rw [show (20 : Int32) = J 20 from rfl, J_le (by omega) (by omega) (by omega) (by omega)]; exact c5), D2.r1, bs, D2.r0, bs, q7, bs, bs, rc_ok tg2, q1, bs, q2, bs]
      show (m_X5_set (y + 11) (J 0) (J (wide (wdT T (fstT T d)))) g).bind _ = _
      rw [q3, bs, D3.r0, bs, D3.r1, bs, rc_ok D3.2.1.tag]
      show (m_X0_putWords (y + 1) (J d) (J (dwV (dwN s) (lnT T d (T (1 + d) - 1) + 1))) (y + 11) (J 1) (J (-1)) g3).bind _ = _
      rw [e4, bs]
/-- one turn of the class -/
theorem DRy.deed (D : DRy h y T s) (h5 : T 5 ≤ 318) (d0 : 0 ≤ d) (d1 : d < T 0) (k0 : 0 ≤ k) (k1 : k < 6) : ∃ g, m_X1_deed y (J d) (J k) h = some g ∧ FR (Dw y) h g ∧ DRy g y (dgT dt T s d k) (dgZ T s d k) := by
  have W := D.2.1.wf
  obtain ⟨hv, hl, hn⟩ := W.last d0 d1
  have n0 := W.n0
  have tg := D.2.1.tag
  have e1 := D.2.1.latestLengthT d0 d1
  have ef := D.2.1.first d0 (show d < 4 by omega)
  have ft := fst_rg (T := T) (d := d)
  have n5 := W.n5
  unfold dgT dgZ
  by_cases c1 : k < 2
  · rw [if_pos c1, if_pos c1]
    by_cases c2 : lnT T d (T (1 + d) - 1) ≤ 0
    · rw [if_pos c2, if_pos c2]
      refine ⟨h, ?_, FR.refl _ _, D⟩
      simp (disch := omega) only [m_X1_deed, j_X1_deed_16, D.r0, rc_ok tg, e1, lm8, lm2, lm1, l0, l1, l2, l3, l4, l5, l6, l7, l8, l9, l10, l11, l12, l13, l14, l15, l16, l17, l18, l19, l20, l21, l22, l23, l24, l25, l27, l31, l32, l40, l46, l48, l50, l57, l59, l63, l86, l96, l97, l100, l110, l114, l122, l127, l200, l255, l300, l319, l320, l340, l441, l456, l580, l600, l800, l886, l1206, l1526, J_add, J_sub, J_mul, J_neg, J_lt, J_le, J_eq, jT, jF, iT, iF, eT, eF, aT, aF, ite_true, ite_false, ite_not, bs]
    · rw [if_neg c2, if_neg c2]
      obtain ⟨g, e, F, D2⟩ := D.cut (dt := dt) d0 d1 (by omega)
      refine ⟨g, ?_, F, D2⟩
      simp (disch := omega) only [m_X1_deed, j_X1_deed_16, D.r0, rc_ok tg, rc_ok D.tag, e1, e, lm8, lm2, lm1, l0, l1, l2, l3, l4, l5, l6, l7, l8, l9, l10, l11, l12, l13, l14, l15, l16, l17, l18, l19, l20, l21, l22, l23, l24, l25, l27, l31, l32, l40, l46, l48, l50, l57, l59, l63, l86, l96, l97, l100, l110, l114, l122, l127, l200, l255, l300, l319, l320, l340, l441, l456, l580, l600, l800, l886, l1206, l1526, J_add, J_sub, J_mul, J_neg, J_lt, J_le, J_eq, jT, jF, iT, iF, eT, eF, aT, aF, ite_true, ite_false, ite_not, bs]
  · rw [if_neg c1, if_neg c1]
    by_cases c2 : k < 4
    · rw [if_pos c2, if_pos c2]
      by_cases c3 : fstT T d = -1
      · rw [if_pos c3, if_pos c3]
        refine ⟨h, ?_, FR.refl _ _, D⟩
        simp (disch := omega) only [m_X1_deed, j_X1_deed_16, D.r0, rc_ok tg, e1, ef, c3, lm8, lm2, lm1, l0, l1, l2, l3, l4, l5, l6, l7, l8, l9, l10, l11, l12, l13, l14, l15, l16, l17, l18, l19, l20, l21, l22, l23, l24, l25, l27, l31, l32, l40, l46, l48, l50, l57, l59, l63, l86, l96, l97, l100, l110, l114, l122, l127, l200, l255, l300, l319, l320, l340, l441, l456, l580, l600, l800, l886, l1206, l1526, J_add, J_sub, J_mul, J_neg, J_lt, J_le, J_eq, jT, jF, iT, iF, eT, eF, aT, aF, ite_true, ite_false, ite_not, bs]
      · rw [if_neg c3, if_neg c3]
        obtain ⟨g, e, F, D2⟩ := D.put (dt := dt) h5 d0 d1 c3
        refine ⟨g, ?_, F, D2⟩
        simp (disch := omega) only [m_X1_deed, j_X1_deed_16, D.r0, rc_ok tg, rc_ok D.tag, e1, ef, e, lm8, lm2, lm1, l0, l1, l2, l3, l4, l5, l6, l7, l8, l9, l10, l11, l12, l13, l14, l15, l16, l17, l18, l19, l20, l21, l22, l23, l24, l25, l27, l31, l32, l40, l46, l48, l50, l57, l59, l63, l86, l96, l97, l100, l110, l114, l122, l127, l200, l255, l300, l319, l320, l340, l441, l456, l580, l600, l800, l886, l1206, l1526, J_add, J_sub, J_mul, J_neg, J_lt, J_le, J_eq, jT, jF, iT, iF, eT, eF, aT, aF, ite_true, ite_false, ite_not, bs]
    · rw [if_neg c2, if_neg c2]
      by_cases c3 : k = 4
      · rw [if_pos c3, if_pos c3]
        by_cases c4 : lnT T d (T (1 + d) - 1) ≤ 0
        · rw [if_pos c4, if_pos c4]
          refine ⟨h, ?_, FR.refl _ _, D⟩
          simp (disch := omega) only [m_X1_deed, j_X1_deed_16, D.r0, rc_ok tg, e1, lm8, lm2, lm1, l0, l1, l2, l3, l4, l5, l6, l7, l8, l9, l10, l11, l12, l13, l14, l15, l16, l17, l18, l19, l20, l21, l22, l23, l24, l25, l27, l31, l32, l40, l46, l48, l50, l57, l59, l63, l86, l96, l97, l100, l110, l114, l122, l127, l200, l255, l300, l319, l320, l340, l441, l456, l580, l600, l800, l886, l1206, l1526, J_add, J_sub, J_mul, J_neg, J_lt, J_le, J_eq, jT, jF, iT, iF, eT, eF, aT, aF, ite_true, ite_false, ite_not, bs]
        · rw [if_neg c4, if_neg c4]
          obtain ⟨g, e, F, D2⟩ := D.move (dt := dt) d0 d1 (by omega)
          refine ⟨g, ?_, F, D2⟩
          simp (disch := omega) only [m_X1_deed, j_X1_deed_16, D.r0, rc_ok tg, rc_ok D.tag, e1, e, lm8, lm2, lm1, l0, l1, l2, l3, l4, l5, l6, l7, l8, l9, l10, l11, l12, l13, l14, l15, l16, l17, l18, l19, l20, l21, l22, l23, l24, l25, l27, l31, l32, l40, l46, l48, l50, l57, l59, l63, l86, l96, l97, l100, l110, l114, l122, l127, l200, l255, l300, l319, l320, l340, l441, l456, l580, l600, l800, l886, l1206, l1526, J_add, J_sub, J_mul, J_neg, J_lt, J_le, J_eq, jT, jF, iT, iF, eT, eF, aT, aF, ite_true, ite_false, ite_not, bs]
      · rw [if_neg c3, if_neg c3]
        obtain ⟨g, e, F, D2⟩ := D.back (dt := dt) d0 d1
        refine ⟨g, ?_, F, D2⟩
        simp (disch := omega) only [m_X1_deed, j_X1_deed_16, D.r0, rc_ok tg, rc_ok D.tag, e1, e, lm8, lm2, lm1, l0, l1, l2, l3, l4, l5, l6, l7, l8, l9, l10, l11, l12, l13, l14, l15, l16, l17, l18, l19, l20, l21, l22, l23, l24, l25, l27, l31, l32, l40, l46, l48, l50, l57, l59, l63, l86, l96, l97, l100, l110, l114, l122, l127, l200, l255, l300, l319, l320, l340, l441, l456, l580, l600, l800, l886, l1206, l1526, J_add, J_sub, J_mul, J_neg, J_lt, J_le, J_eq, jT, jF, iT, iF, eT, eF, aT, aF, ite_true, ite_false, ite_not, bs]
theorem DRy.turn (D : DRy h y T s) (h5 : T 5 ≤ 318) (t0 : 1 ≤ T 0) {R : Type} (K0 : Option R) (K : Hp → Option R) : ∃ g, ((gfR h y 2 0).bind fun x1 => (gfI h x1 1 0).bind fun x2 => if x2 ≤ 0 then K0 else (gfR h y 2 0).bind fun x3 => (gfI h x3 1 0).bind fun x4 => (rc h y 2 (m_X1_below y x4 h)).bind fun x5 => (rc x5.2 y 2 (m_X1_below y (6 : Int32) x5.2)).bind fun x6 => (rc x6.2 y 2 (m_X1_deed y x5.1 x6.1 x6.2)).bind fun x7 => K x7) = K g ∧ FR (Dw y) h g ∧ DRy g y (dgST dt T s) (dgSZ T s) := by
  have W := D.2.1.wf
  have n0 := W.n0
  have f0 := D.2.1.f0
  obtain ⟨g1, e1, F1, D1⟩ := D.below (n := T 0) (by omega) (by omega)
  obtain ⟨g2, e2, F2, D2⟩ := D1.below (n := 6) (by omega) (by omega)
  have v := dwV_rg (z := dwN s) (n := T 0) (by omega) (by omega)
  have w := dwV_rg (z := dwN (dwN s)) (n := 6) (by omega) (by omega)
  obtain ⟨g, e3, F3, D3⟩ := D2.deed (dt := dt) h5 v.1 v.2 w.1 w.2
  refine ⟨g, ?_, (F1.trans F2).trans F3, D3⟩
  have e2' : m_X1_below y (6 : Int32) g1 = some (J (dwV (dwN (dwN s)) 6), g2) := e2
  rw [D.r0, bs, f0, bs, if_neg (show ¬ J (T 0) ≤ 0 by rw [show (0 : Int32) = J 0 from rfl, J_le (by omega) (by omega) (by omega) (by omega)]; omega), bs, f0, bs, rc_ok D.tag, e1, bs, rc_ok D1.tag, e2', bs, rc_ok D2.tag, e3, bs]
end DRC
