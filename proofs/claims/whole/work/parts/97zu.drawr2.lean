/-! PURE PART: drawn archives, a turn of the reference -/
section DRS
variable {h : Hp} {o : Nat} {T : Int → Int} {s d n dt k p q ft : Int}
theorem RD.f21 (D : RD h o T s dt) {z : Int} (e : hE h o 21 = z) : gfI h o 12 21 = some (J z) := by
  rw [gfI_ok D.tag]
  exact congrArg (fun z => some (J z)) e
/-- the last steps of a cut -/
theorem RD.t1 (D : RD h o T s dt) (d0 : 0 ≤ d) (d1 : d < T 0) (c0 : hE h (o + 10) 0 = d) (c1 : hE h (o + 10) 1 = p) (k0 : 0 ≤ k) (k1 : k < 2) (p0 : 0 ≤ p) (p1 : p < lnT T d (T (1 + d) - 1)) : ∃ g, j_X12_drawChange_155 o (J k) (J ft) (o + 10) (2 : Int32) (1 : Int32) h = some g ∧ FR (ADr o) h g ∧ RD g o (if 10 ≤ T (1 + d) then T else mkT T 0 d 0 (fun _ => 0) (lnT T d (T (1 + d) - 1) - 1) (rCut T d (T (1 + d) - 1) p 1) dt) s dt := by
  obtain ⟨hv, hl, hn⟩ := D.1.2.1.last d0 d1
  obtain ⟨g1, e1, F1, D1, z1⟩ := D.cell (i := 2) (z := 1) (by omega) (by omega) (by omega) (by omega)
  obtain ⟨g2, e2, F2, D2, z2⟩ := D1.many (z := 0) (by omega) (by omega)
  obtain ⟨g3, e3, F3, D3, z3⟩ := D2.word (z := 0) (by omega) (by omega)
  have f21 := D2.f21 z2
  have FF : FR (ADr o) h g3 := ((F1.mono (fun b k q => by unfold ADr; omega)).trans (F2.mono (fun b k q => by unfold ADr; omega))).trans (F3.mono (fun b k q => by unfold ADr; omega))
  have c0' : hE g3 (o + 10) 0 = d := by rw [F3.e (by omega), F2.e (by omega), F1.e (by omega), c0]
  have c1' : hE g3 (o + 10) 1 = p := by rw [F3.e (by omega), F2.e (by omega), F1.e (by omega), c1]
  have c2' : hE g3 (o + 10) 2 = 1 := by rw [F3.e (by omega), F2.e (by omega), z1]
  have ev : ∀ x, m_X12_makes o (J 1) g3 = x → j_X12_drawChange_155 o (J k) (J ft) (o + 10) (2 : Int32) (1 : Int32) h = x := fun x e => by
    rw [← e]
    simp (disch := omega) only [j_X12_drawChange_155, e1, j_X12_drawChange_172, e2, D2.1.1.r20, f21, j_X12_drawChange_198, e3, j_X12_drawChange_219, rc_ok D3.tag, lm8, lm2, lm1, l0, l1, l2, l3, l4, l5, l6, l7, l8, l9, l10, l11, l12, l13, l14, l15, l16, l17, l18, l19, l20, l21, l22, l23, l24, l25, l27, l31, l32, l40, l46, l48, l50, l57, l59, l63, l86, l96, l97, l100, l110, l114, l122, l127, l200, l255, l300, l319, l320, l340, l441, l456, l580, l600, l800, l886, l1206, l1526, J_add, J_sub, J_mul, J_neg, J_lt, J_le, J_eq, jT, jF, iT, iF, eT, eF, aT, aF, ite_true, ite_false, ite_not, bs]
    cases m_X12_makes o (J 1) g3 <;> rfl
  by_cases c : 10 ≤ T (1 + d)
  · rw [if_pos c]
    exact ⟨g3, ev _ (D3.makesNo d0 d1 c0' c), FF, D3⟩
  · rw [if_neg c]
    have th : thB T 1 d p 1 = true := by
      unfold thB
      rw [if_neg (by omega), if_pos rfl]
      exact decide_eq_true (by omega)
    obtain ⟨g, e, F, R⟩ := D3.makes (k := 1) d0 d1 c0' c (by omega) (by omega) c1' c2' p0 (by omega) (fun _ => ⟨by omega, by omega⟩) th (D3.1.cut (ws := fun _ => 0) c0' c1' c2' hv (by omega) p0 (by omega) (by omega) D3.2.2)
    exact ⟨g, ev _ e, FF.trans F, R⟩
/-- the last steps of a move -/
theorem RD.t4 (D : RD h o T s dt) (d0 : 0 ≤ d) (d1 : d < T 0) (c0 : hE h (o + 10) 0 = d) (c1 : hE h (o + 10) 1 = p) (p0 : 0 ≤ p) (p1 : p < lnT T d (T (1 + d) - 1)) (q0 : 0 ≤ q) (q1 : q < lnT T d (T (1 + d) - 1)) : ∃ g, j_X12_drawChange_155 o (J 4) (J ft) (o + 10) (2 : Int32) (J q) h = some g ∧ FR (ADr o) h g ∧ RD g o (if 10 ≤ T (1 + d) then T else mkT T 0 d 0 (fun _ => 0) (lnT T d (T (1 + d) - 1)) (rMov T d (T (1 + d) - 1) p q) dt) s dt := by
  obtain ⟨hv, hl, hn⟩ := D.1.2.1.last d0 d1
  obtain ⟨g1, e1, F1, D1, z1⟩ := D.cell (i := 2) (z := q) (by omega) (by omega) (by omega) (by omega)
  obtain ⟨g2, e2, F2, D2, z2⟩ := D1.many (z := 0) (by omega) (by omega)
  obtain ⟨g3, e3, F3, D3, z3⟩ := D2.word (z := 0) (by omega) (by omega)
  have f21 := D2.f21 z2
  have FF : FR (ADr o) h g3 := ((F1.mono (fun b k q => by unfold ADr; omega)).trans (F2.mono (fun b k q => by unfold ADr; omega))).trans (F3.mono (fun b k q => by unfold ADr; omega))
  have c0' : hE g3 (o + 10) 0 = d := by rw [F3.e (by omega), F2.e (by omega), F1.e (by omega), c0]
  have c1' : hE g3 (o + 10) 1 = p := by rw [F3.e (by omega), F2.e (by omega), F1.e (by omega), c1]
  have c2' : hE g3 (o + 10) 2 = q := by rw [F3.e (by omega), F2.e (by omega), z1]
  have ev : ∀ x, m_X12_makes o (J 2) g3 = x → j_X12_drawChange_155 o (J 4) (J ft) (o + 10) (2 : Int32) (J q) h = x := fun x e => by
    rw [← e]
    simp (disch := omega) only [j_X12_drawChange_155, e1, j_X12_drawChange_172, e2, D2.1.1.r20, f21, j_X12_drawChange_198, e3, j_X12_drawChange_219, rc_ok D3.tag, lm8, lm2, lm1, l0, l1, l2, l3, l4, l5, l6, l7, l8, l9, l10, l11, l12, l13, l14, l15, l16, l17, l18, l19, l20, l21, l22, l23, l24, l25, l27, l31, l32, l40, l46, l48, l50, l57, l59, l63, l86, l96, l97, l100, l110, l114, l122, l127, l200, l255, l300, l319, l320, l340, l441, l456, l580, l600, l800, l886, l1206, l1526, J_add, J_sub, J_mul, J_neg, J_lt, J_le, J_eq, jT, jF, iT, iF, eT, eF, aT, aF, ite_true, ite_false, ite_not, bs]
    cases m_X12_makes o (J 2) g3 <;> rfl
  by_cases c : 10 ≤ T (1 + d)
  · rw [if_pos c]
    exact ⟨g3, ev _ (D3.makesNo d0 d1 c0' c), FF, D3⟩
  · rw [if_neg c]
    have th : thB T 2 d p q = true := by
      unfold thB
      rw [if_neg (by omega), if_neg (by omega), if_pos rfl]
      exact decide_eq_true ⟨p1, q1⟩
    obtain ⟨g, e, F, R⟩ := D3.makes (k := 2) d0 d1 c0' c (by omega) (by omega) c1' c2' p0 (by omega) (fun _ => ⟨by omega, by omega⟩) th (D3.1.mov (ws := fun _ => 0) c0' c1' c2' hv (by omega) p0 p1 q0 q1 D3.2.2)
    exact ⟨g, ev _ e, FF.trans F, R⟩
/-- the last steps of a word put -/
theorem RD.t2 (D : RD h o T s dt) (h5 : T 5 ≤ 318) (d0 : 0 ≤ d) (d1 : d < T 0) (c0 : hE h (o + 10) 0 = d) (c1 : hE h (o + 10) 1 = p) (k0 : 2 ≤ k) (k1 : k < 4) (p0 : 0 ≤ p) (p1 : p ≤ lnT T d (T (1 + d) - 1)) (f0 : 0 ≤ ft) (f1 : ft < T 5) : ∃ g, j_X12_drawChange_155 o (J k) (J ft) (o + 10) (2 : Int32) (-1 : Int32) h = some g ∧ FR (ADr o) h g ∧ RD g o (if 10 ≤ T (1 + d) then T else if 20 ≤ lnT T d (T (1 + d) - 1) then T else mkT T 0 d 1 (fun _ => wdT T ft) (lnT T d (T (1 + d) - 1) + 1) (rPut T d (T (1 + d) - 1) p 1) dt) s dt := by
  obtain ⟨hv, hl, hn⟩ := D.1.2.1.last d0 d1
  have wg := D.1.2.1.wf_wrg f0 f1
  have wb : 1 ≤ wdT T ft ∧ wdT T ft < 531441 := ⟨wg.1, wg.2.1⟩
  obtain ⟨g1, e1, F1, D1, z1⟩ := D.cell (i := 2) (z := -1) (by omega) (by omega) (by omega) (by omega)
  obtain ⟨g2, e2, F2, D2, z2⟩ := D1.many (z := 1) (by omega) (by omega)
  obtain ⟨g3, e3, F3, D3, z3⟩ := D2.word (z := wdT T ft) (by omega) (by omega)
  have f21 := D2.f21 z2
  have ew := D2.1.wordOf f0 (show ft < 320 by omega)
  have FF : FR (ADr o) h g3 := ((F1.mono (fun b k q => by unfold ADr; omega)).trans (F2.mono (fun b k q => by unfold ADr; omega))).trans (F3.mono (fun b k q => by unfold ADr; omega))
  have c0' : hE g3 (o + 10) 0 = d := by rw [F3.e (by omega), F2.e (by omega), F1.e (by omega), c0]
  have c1' : hE g3 (o + 10) 1 = p := by rw [F3.e (by omega), F2.e (by omega), F1.e (by omega), c1]
  have c21 : hE g3 o 21 = 1 := by rw [F3.e (by omega), z2]
  have ev : ∀ x, m_X12_makes o (J 0) g3 = x → j_X12_drawChange_155 o (J k) (J ft) (o + 10) (2 : Int32) (-1 : Int32) h = x := fun x e => by
    rw [← e]
    by_cases k2 : k = 2
    · simp (disch := omega) only [j_X12_drawChange_155, e1, j_X12_drawChange_172, e2, D2.1.1.r20, f21, j_X12_drawChange_198, rc_ok D2.tag, ew, e3, j_X12_drawChange_219, rc_ok D3.tag, lm8, lm2, lm1, l0, l1, l2, l3, l4, l5, l6, l7, l8, l9, l10, l11, l12, l13, l14, l15, l16, l17, l18, l19, l20, l21, l22, l23, l24, l25, l27, l31, l32, l40, l46, l48, l50, l57, l59, l63, l86, l96, l97, l100, l110, l114, l122, l127, l200, l255, l300, l319, l320, l340, l441, l456, l580, l600, l800, l886, l1206, l1526, J_add, J_sub, J_mul, J_neg, J_lt, J_le, J_eq, jT, jF, iT, iF, eT, eF, aT, aF, ite_true, ite_false, ite_not, bs]
      cases m_X12_makes o (J 0) g3 <;> rfl
    · simp (disch := omega) only [j_X12_drawChange_155, e1, j_X12_drawChange_172, e2, D2.1.1.r20, f21, j_X12_drawChange_198, rc_ok D2.tag, ew, e3, j_X12_drawChange_219, rc_ok D3.tag, lm8, lm2, lm1, l0, l1, l2, l3, l4, l5, l6, l7, l8, l9, l10, l11, l12, l13, l14, l15, l16, l17, l18, l19, l20, l21, l22, l23, l24, l25, l27, l31, l32, l40, l46, l48, l50, l57, l59, l63, l86, l96, l97, l100, l110, l114, l122, l127, l200, l255, l300, l319, l320, l340, l441, l456, l580, l600, l800, l886, l1206, l1526, J_add, J_sub, J_mul, J_neg, J_lt, J_le, J_eq, jT, jF, iT, iF, eT, eF, aT, aF, ite_true, ite_false, ite_not, bs]
      cases m_X12_makes o (J 0) g3 <;> rfl
  by_cases c : 10 ≤ T (1 + d)
  · rw [if_pos c]
    exact ⟨g3, ev _ (D3.makesNo d0 d1 c0' c), FF, D3⟩
  · rw [if_neg c]
    obtain ⟨g, e, F, R⟩ := D3.makes0 d0 d1 c0' c c1' p0 p1 (fun c5 => D3.1.put (ws := fun _ => wdT T ft) (w := 1) (c := 0) c0' c1' hv (by omega) p0 p1 (by omega) (by omega) (by omega) (fun _ _ _ => wg) c21 (fun i i0 i1 => by rw [show i = 0 by omega, z3]) D3.2.2)
    exact ⟨g, ev _ e, FF.trans F, R⟩
/-- up to the kind -/
theorem RD.pre (D : RD h o T s dt) (t0 : 1 ≤ T 0) (hd : dwV (dwN s) (T 0) = d) (hk : dwV (dwN (dwN s)) 6 = k) : ∃ g, FR (ADr o) h g ∧ RD g o T (dwN (dwN s)) dt ∧ hE g (o + 10) 0 = d ∧ m_X12_drawChange o h = if ¬ J k = (5 : Int32) then (if J k = (2 : Int32) then j_X12_drawChange_86 o (J k) (J (lnT T d (T (1 + d) - 1))) (J (fstT T d)) g else if ¬ J k = (3 : Int32) then (if ¬ J (lnT T d (T (1 + d) - 1)) = 0 then j_X12_drawChange_100 o (J k) (J (lnT T d (T (1 + d) - 1))) (J (fstT T d)) g else some g) else j_X12_drawChange_86 o (J k) (J (lnT T d (T (1 + d) - 1))) (J (fstT T d)) g) else (gfR g o 12 19).bind fun x9 => (rc g o 12 (m_X12_versions o (J d) g)).bind fun x10 => (rc g o 12 (m_X12_draw o x10 g)).bind fun x11 => (asI x11.2 x9 (1 : Int32) x11.1).bind fun hh3 => (rc hh3 o 12 (m_X12_makes o (3 : Int32) hh3)).bind fun x12 => some x12 := by
  have n0 := D.1.2.1.n0
  obtain ⟨g1, e1, F1, D1⟩ := D.draw (n := T 0) (by omega) (by omega)
  obtain ⟨g2, e2, F2, D2⟩ := D1.draw (n := 6) (by omega) (by omega)
  have v := dwV_rg (z := dwN s) (n := T 0) (by omega) (by omega)
  rw [hd] at v e1
  rw [hk] at e2
  obtain ⟨hv, hl, hn⟩ := D.1.2.1.last v.1 v.2
  have e3 := D2.1.versions v.1 (show d < 4 by omega)
  have e4 := D2.1.longOf (d := d) (v := T (1 + d) - 1) (by omega) (by omega)
  have e4' : m_X12_longOf o (J d) (J (T (1 + d)) - (1 : Int32)) g2 = some (J (lnT T d (T (1 + d) - 1))) := by
    rw [show (1 : Int32) = J 1 from rfl, J_sub, e4]
  have e5 := D2.1.first v.1 (show d < 4 by omega)
  obtain ⟨g3, e6, F3, D3, z3⟩ := D2.cell (i := 0) (z := d) (by omega) (by omega) (by omega) (by omega)
  obtain ⟨g4, e7, F4, D4, z4⟩ := D3.many (z := 0) (by omega) (by omega)
  have e0 : alI h (o + 9) (0 : Int32) = some (J (T 0)) := D.1.told (k := 0) (by omega) (by omega)
  have e2' : m_X12_draw o (6 : Int32) g1 = some (J k, g2) := e2
  have e6' : asI g2 (o + 10) (0 : Int32) (J d) = some g3 := e6
  have e7' : pfI g3 o 12 21 (0 : Int32) = some g4 := e7
  refine ⟨g4, (((F1.mono (fun b k q => by unfold ADr; omega)).trans (F2.mono (fun b k q => by unfold ADr; omega))).trans (F3.mono (fun b k q => by unfold ADr; omega))).trans (F4.mono (fun b k q => by unfold ADr; omega)), D4, by rw [F4.e (by omega), z3], ?_⟩
  unfold m_X12_drawChange
  rw [D.1.1.r18, bs, e0, bs, rc_ok D.tag, e1, bs, rc_ok D1.tag, e2', bs, rc_ok D2.tag, e3, bs, rc_ok D2.tag, e4', bs, rc_ok D2.tag, e5, bs, D2.1.1.r19, bs, e6', bs, e7', bs]
/-- one turn of the reference -/
theorem RD.turn (D : RD h o T s dt) (h5 : T 5 ≤ 318) (t0 : 1 ≤ T 0) : ∃ g, m_X12_drawChange o h = some g ∧ FR (ADr o) h g ∧ RD g o (dgST dt T s) (dgSZ T s) dt := by
  have n0 := D.1.2.1.n0
  have n5 := D.1.2.1.n5
  show ∃ g, m_X12_drawChange o h = some g ∧ FR (ADr o) h g ∧ RD g o (dgT dt T (dwN (dwN s)) (dwV (dwN s) (T 0)) (dwV (dwN (dwN s)) 6)) (dgZ T (dwN (dwN s)) (dwV (dwN s) (T 0)) (dwV (dwN (dwN s)) 6)) dt
  have v := dwV_rg (z := dwN s) (n := T 0) (by omega) (by omega)
  have w := dwV_rg (z := dwN (dwN s)) (n := 6) (by omega) (by omega)
  obtain ⟨g4, F4, D4, c0, e0⟩ := D.pre t0 rfl rfl
  generalize dwV (dwN s) (T 0) = d at *
  generalize dwV (dwN (dwN s)) 6 = k at *
  generalize dwN (dwN s) = s2 at *
  obtain ⟨hv, hl, hn⟩ := D.1.2.1.last v.1 v.2
  have ft := fst_rg (T := T) (d := d)
  rw [e0]
  generalize hL : lnT T d (T (1 + d) - 1) = LL at *
  unfold dgT dgZ
  by_cases c1 : k < 2
  · rw [if_pos c1, if_pos c1, hL]
    by_cases c2 : LL ≤ 0
    · rw [if_pos c2, if_pos c2]
      refine ⟨g4, ?_, F4, D4⟩
      simp (disch := omega) only [lm8, lm2, lm1, l0, l1, l2, l3, l4, l5, l6, l7, l8, l9, l10, l11, l12, l13, l14, l15, l16, l17, l18, l19, l20, l21, l22, l23, l24, l25, l27, l31, l32, l40, l46, l48, l50, l57, l59, l63, l86, l96, l97, l100, l110, l114, l122, l127, l200, l255, l300, l319, l320, l340, l441, l456, l580, l600, l800, l886, l1206, l1526, J_add, J_sub, J_mul, J_neg, J_lt, J_le, J_eq, jT, jF, iT, iF, eT, eF, aT, aF, ite_true, ite_false, ite_not, bs]
    · rw [if_neg c2, if_neg c2]
      obtain ⟨g5, e5, F5, D5⟩ := D4.draw (n := LL) (by omega) (by omega)
      have pv := dwV_rg (z := dwN s2) (n := LL) (by omega) (by omega)
      obtain ⟨g6, e6, F6, D6, z6⟩ := D5.cell (i := 1) (z := dwV (dwN s2) LL) (by omega) (by omega) (by omega) (by omega)
      obtain ⟨g, e7, F7, D7⟩ := D6.t1 (ft := fstT T d) (k := k) (p := dwV (dwN s2) LL) v.1 v.2 (by rw [F6.e (by omega), F5.e (by omega), c0]) z6 w.1 c1 pv.1 (by omega)
      rw [hL] at D7
      refine ⟨g, ?_, ((F4.trans (F5.mono (fun b k q => by unfold ADr; omega))).trans (F6.mono (fun b k q => by unfold ADr; omega))).trans F7, D7⟩
      have e7' : j_X12_drawChange_155 o (J k) (J (fstT T d)) (o + 10) (J 2) (J 1) g6 = some g := e7
      simp (disch := omega) only [j_X12_drawChange_100, j_X12_drawChange_123, D4.1.1.r19, rc_ok D4.tag, e5, e6, D6.1.1.r19, e7', lm8, lm2, lm1, l0, l1, l2, l3, l4, l5, l6, l7, l8, l9, l10, l11, l12, l13, l14, l15, l16, l17, l18, l19, l20, l21, l22, l23, l24, l25, l27, l31, l32, l40, l46, l48, l50, l57, l59, l63, l86, l96, l97, l100, l110, l114, l122, l127, l200, l255, l300, l319, l320, l340, l441, l456, l580, l600, l800, l886, l1206, l1526, J_add, J_sub, J_mul, J_neg, J_lt, J_le, J_eq, jT, jF, iT, iF, eT, eF, aT, aF, ite_true, ite_false, ite_not, bs]
  · rw [if_neg c1, if_neg c1]
    by_cases c2 : k < 4
    · rw [if_pos c2, if_pos c2]
      by_cases c3 : fstT T d = -1
      · rw [if_pos c3, if_pos c3, c3]
        refine ⟨g4, ?_, F4, D4⟩
        by_cases k2 : k = 2
        · simp (disch := omega) only [j_X12_drawChange_86, lm8, lm2, lm1, l0, l1, l2, l3, l4, l5, l6, l7, l8, l9, l10, l11, l12, l13, l14, l15, l16, l17, l18, l19, l20, l21, l22, l23, l24, l25, l27, l31, l32, l40, l46, l48, l50, l57, l59, l63, l86, l96, l97, l100, l110, l114, l122, l127, l200, l255, l300, l319, l320, l340, l441, l456, l580, l600, l800, l886, l1206, l1526, J_add, J_sub, J_mul, J_neg, J_lt, J_le, J_eq, jT, jF, iT, iF, eT, eF, aT, aF, ite_true, ite_false, ite_not, bs]
        · simp (disch := omega) only [j_X12_drawChange_86, lm8, lm2, lm1, l0, l1, l2, l3, l4, l5, l6, l7, l8, l9, l10, l11, l12, l13, l14, l15, l16, l17, l18, l19, l20, l21, l22, l23, l24, l25, l27, l31, l32, l40, l46, l48, l50, l57, l59, l63, l86, l96, l97, l100, l110, l114, l122, l127, l200, l255, l300, l319, l320, l340, l441, l456, l580, l600, l800, l886, l1206, l1526, J_add, J_sub, J_mul, J_neg, J_lt, J_le, J_eq, jT, jF, iT, iF, eT, eF, aT, aF, ite_true, ite_false, ite_not, bs]
      · rw [if_neg c3, if_neg c3, hL]
        have ft' := ft.resolve_left c3
        obtain ⟨g5, e5, F5, D5⟩ := D4.draw (n := LL + 1) (by omega) (by omega)
        have pv := dwV_rg (z := dwN s2) (n := LL + 1) (by omega) (by omega)
        obtain ⟨g6, e6, F6, D6, z6⟩ := D5.cell (i := 1) (z := dwV (dwN s2) (LL + 1)) (by omega) (by omega) (by omega) (by omega)
        obtain ⟨g, e7, F7, D7⟩ := D6.t2 (ft := fstT T d) (k := k) (p := dwV (dwN s2) (LL + 1)) h5 v.1 v.2 (by rw [F6.e (by omega), F5.e (by omega), c0]) z6 (by omega) c2 pv.1 (by omega) ft'.1 ft'.2
        rw [hL] at D7
        refine ⟨g, ?_, ((F4.trans (F5.mono (fun b k q => by unfold ADr; omega))).trans (F6.mono (fun b k q => by unfold ADr; omega))).trans F7, D7⟩
        have e7' : j_X12_drawChange_155 o (J k) (J (fstT T d)) (o + 10) (J 2) (J (-1)) g6 = some g := e7
        by_cases k2 : k = 2
        · simp (disch := omega) only [j_X12_drawChange_86, j_X12_drawChange_100, j_X12_drawChange_116, j_X12_drawChange_123, D4.1.1.r19, rc_ok D4.tag, e5, e6, D6.1.1.r19, e7', lm8, lm2, lm1, l0, l1, l2, l3, l4, l5, l6, l7, l8, l9, l10, l11, l12, l13, l14, l15, l16, l17, l18, l19, l20, l21, l22, l23, l24, l25, l27, l31, l32, l40, l46, l48, l50, l57, l59, l63, l86, l96, l97, l100, l110, l114, l122, l127, l200, l255, l300, l319, l320, l340, l441, l456, l580, l600, l800, l886, l1206, l1526, J_add, J_sub, J_mul, J_neg, J_lt, J_le, J_eq, jT, jF, iT, iF, eT, eF, aT, aF, ite_true, ite_false, ite_not, bs]
        · simp (disch := omega) only [j_X12_drawChange_86, j_X12_drawChange_100, j_X12_drawChange_116, j_X12_drawChange_123, D4.1.1.r19, rc_ok D4.tag, e5, e6, D6.1.1.r19, e7', lm8, lm2, lm1, l0, l1, l2, l3, l4, l5, l6, l7, l8, l9, l10, l11, l12, l13, l14, l15, l16, l17, l18, l19, l20, l21, l22, l23, l24, l25, l27, l31, l32, l40, l46, l48, l50, l57, l59, l63, l86, l96, l97, l100, l110, l114, l122, l127, l200, l255, l300, l319, l320, l340, l441, l456, l580, l600, l800, l886, l1206, l1526, J_add, J_sub, J_mul, J_neg, J_lt, J_le, J_eq, jT, jF, iT, iF, eT, eF, aT, aF, ite_true, ite_false, ite_not, bs]
    · rw [if_neg c2, if_neg c2]
      by_cases c3 : k = 4
      · rw [if_pos c3, if_pos c3, hL]
        by_cases c4 : LL ≤ 0
        · rw [if_pos c4, if_pos c4]
          refine ⟨g4, ?_, F4, D4⟩
          simp (disch := omega) only [lm8, lm2, lm1, l0, l1, l2, l3, l4, l5, l6, l7, l8, l9, l10, l11, l12, l13, l14, l15, l16, l17, l18, l19, l20, l21, l22, l23, l24, l25, l27, l31, l32, l40, l46, l48, l50, l57, l59, l63, l86, l96, l97, l100, l110, l114, l122, l127, l200, l255, l300, l319, l320, l340, l441, l456, l580, l600, l800, l886, l1206, l1526, J_add, J_sub, J_mul, J_neg, J_lt, J_le, J_eq, jT, jF, iT, iF, eT, eF, aT, aF, ite_true, ite_false, ite_not, bs]
        · rw [if_neg c4, if_neg c4]
          obtain ⟨g5, e5, F5, D5⟩ := D4.draw (n := LL) (by omega) (by omega)
          have pv := dwV_rg (z := dwN s2) (n := LL) (by omega) (by omega)
          obtain ⟨g6, e6, F6, D6, z6⟩ := D5.cell (i := 1) (z := dwV (dwN s2) LL) (by omega) (by omega) (by omega) (by omega)
          obtain ⟨g7, e7, F7, D7⟩ := D6.draw (n := LL) (by omega) (by omega)
          have qv := dwV_rg (z := dwN (dwN s2)) (n := LL) (by omega) (by omega)
          have c0'' : hE g7 (o + 10) 0 = d := by rw [F7.e (fun q => absurd q.1 (by omega)), F6.e (fun q => absurd q.2 (by decide)), F5.e (fun q => absurd q.1 (by omega)), c0]
          have c1'' : hE g7 (o + 10) 1 = dwV (dwN s2) LL := by rw [F7.e (fun q => absurd q.1 (by omega)), z6]
          have p1'' : dwV (dwN s2) LL < lnT T d (T (1 + d) - 1) := by rw [hL]; exact pv.2
          have q1'' : dwV (dwN (dwN s2)) LL < lnT T d (T (1 + d) - 1) := by rw [hL]; exact qv.2
          obtain ⟨g, e8, F8, D8⟩ := D7.t4 (ft := fstT T d) v.1 v.2 c0'' c1'' pv.1 p1'' qv.1 q1''
          rw [hL] at D8
          refine ⟨g, ?_, (((F4.trans (F5.mono (fun b k q => by unfold ADr; omega))).trans (F6.mono (fun b k q => by unfold ADr; omega))).trans (F7.mono (fun b k q => by unfold ADr; omega))).trans F8, D8⟩
          subst c3
          have e8' : j_X12_drawChange_155 o (J 4) (J (fstT T d)) (o + 10) (J 2) (J (dwV (dwN (dwN s2)) LL)) g7 = some g := e8
          simp (disch := omega) only [j_X12_drawChange_100, j_X12_drawChange_123, D4.1.1.r19, rc_ok D4.tag, e5, e6, D6.1.1.r19, rc_ok D6.tag, e7, e8', lm8, lm2, lm1, l0, l1, l2, l3, l4, l5, l6, l7, l8, l9, l10, l11, l12, l13, l14, l15, l16, l17, l18, l19, l20, l21, l22, l23, l24, l25, l27, l31, l32, l40, l46, l48, l50, l57, l59, l63, l86, l96, l97, l100, l110, l114, l122, l127, l200, l255, l300, l319, l320, l340, l441, l456, l580, l600, l800, l886, l1206, l1526, J_add, J_sub, J_mul, J_neg, J_lt, J_le, J_eq, jT, jF, iT, iF, eT, eF, aT, aF, ite_true, ite_false, ite_not, bs]
      · rw [if_neg c3, if_neg c3]
        have k5 : k = 5 := by omega
        obtain ⟨g5, e5, F5, D5⟩ := D4.draw (n := T (1 + d)) (by omega) (by omega)
        have pv := dwV_rg (z := dwN s2) (n := T (1 + d)) (by omega) (by omega)
        obtain ⟨g6, e6, F6, D6, z6⟩ := D5.cell (i := 1) (z := dwV (dwN s2) (T (1 + d))) (by omega) (by omega) (by omega) (by omega)
        have c0' : hE g6 (o + 10) 0 = d := by rw [F6.e (by omega), F5.e (by omega), c0]
        have ver := D4.1.versions v.1 (show d < 4 by omega)
        have FF : FR (ADr o) h g6 := (F4.trans (F5.mono (fun b k q => by unfold ADr; omega))).trans (F6.mono (fun b k q => by unfold ADr; omega))
        have ev : ∀ x, m_X12_makes o (J 3) g6 = x → (if ¬ J k = (5 : Int32) then (if J k = (2 : Int32) then j_X12_drawChange_86 o (J k) (J LL) (J (fstT T d)) g4 else if ¬ J k = (3 : Int32) then (if ¬ J LL = 0 then j_X12_drawChange_100 o (J k) (J LL) (J (fstT T d)) g4 else some g4) else j_X12_drawChange_86 o (J k) (J LL) (J (fstT T d)) g4) else (gfR g4 o 12 19).bind fun x9 => (rc g4 o 12 (m_X12_versions o (J d) g4)).bind fun x10 => (rc g4 o 12 (m_X12_draw o x10 g4)).bind fun x11 => (asI x11.2 x9 (1 : Int32) x11.1).bind fun hh3 => (rc hh3 o 12 (m_X12_makes o (3 : Int32) hh3)).bind fun x12 => some x12) = x := fun x e => by
          rw [← e]
          simp (disch := omega) only [D4.1.1.r19, rc_ok D4.tag, ver, e5, e6, rc_ok D6.tag, lm8, lm2, lm1, l0, l1, l2, l3, l4, l5, l6, l7, l8, l9, l10, l11, l12, l13, l14, l15, l16, l17, l18, l19, l20, l21, l22, l23, l24, l25, l27, l31, l32, l40, l46, l48, l50, l57, l59, l63, l86, l96, l97, l100, l110, l114, l122, l127, l200, l255, l300, l319, l320, l340, l441, l456, l580, l600, l800, l886, l1206, l1526, J_add, J_sub, J_mul, J_neg, J_lt, J_le, J_eq, jT, jF, iT, iF, eT, eF, aT, aF, ite_true, ite_false, ite_not, bs]
          cases m_X12_makes o (J 3) g6 <;> rfl
        by_cases c : 10 ≤ T (1 + d)
        · rw [if_pos c]
          exact ⟨g6, ev _ (D6.makesNo v.1 v.2 c0' c), FF, D6⟩
        · rw [if_neg c]
          have hv2 : vvT T d (dwV (dwN s2) (T (1 + d))) := ⟨v.1, v.2, pv.1, pv.2⟩
          have th : thB T 3 d (dwV (dwN s2) (T (1 + d))) (hE g6 (o + 10) 2) = true := by
            unfold thB
            rw [if_neg (by omega), if_neg (by omega), if_neg (by omega)]
            exact decide_eq_true pv.2
          obtain ⟨g, e, F, R⟩ := D6.makes (k := 3) v.1 v.2 c0' c (by omega) (by omega) z6 rfl pv.1 (by omega) (fun q => by omega) th (D6.1.back (ws := fun _ => 0) c0' z6 hv2 (by omega) D6.2.2)
          exact ⟨g, ev _ e, FF.trans F, R⟩
end DRS
