/-! PURE PART: move, and all four changes: the reference -/
section TM
variable {h : Hp} {o : Nat} {T : Int → Int} {z d m n dt : Int} {ws r : Int → Int}
/-- how many are consumed, and where one stands -/
def mvS (a c : Int) : Int := if a ≤ c then c + 1 else c
theorem RB.moves (B : RB h o T 0 d 0 ws 0 r dt) {e a b : Int} (hv : vvT T d e) (ha : hE h (o + 10) 1 = a) (hbb : hE h (o + 10) 2 = b) (a0 : 0 ≤ a) (a1 : a < lnT T d e) (b0 : 0 ≤ b) (b1 : b < lnT T d e) (pr : ∀ q, r q = rMov T d e a b q) : ∃ h', m_X12_moves o (J d) (J (10 * d + e)) (J (lnT T d e)) h = some h' ∧ FR (ATo o) h h' ∧ RB h' o T 0 d 0 ws (lnT T d e) r dt := by
  have hb := B.2.1.vb hv
  have hl := B.2.1.ln hv
  obtain ⟨s, ⟨s4, h1, rfl, F1, B1, _⟩, e1⟩ := loop_ex (body := fun (k : Int32 × Int32 × Hp → Option Hp) (s : Int32 × Int32 × Hp) => b_X12_moves_6 o (J d) (J (10 * d + e)) (J (lnT T d e)) (fun v4q v5q hq => k (v4q, v5q, hq)) s.1 s.2.1 s.2.2) (s := (J 0, J 0, h)) (fun i s => ∃ s4 h', s = (J s4, J i, h') ∧ FR (ATo o) h h' ∧ RB h' o T 0 d 0 ws i r dt ∧ 0 ≤ s4 ∧ s4 + (if s4 = a then 1 else 0) = mvS a (if b < i then i - 1 else i)) (fun s => some s.2.2) (lnT T d e) hl.1 (by omega) ⟨0, h, rfl, FR.refl _ _, B, Int.le_refl 0, by
      rw [if_neg (show ¬ b < 0 by omega)]
      unfold mvS
      by_cases c : a ≤ 0
      · rw [if_pos (by omega), if_pos c]
      · rw [if_neg (by omega), if_neg c]
        rfl⟩ (by
      rintro k i s i0 i1 ⟨s4, h', rfl, F, B', s0, hs⟩
      have th : TR (top h') o := B'.1
      have ea : alI h' (o + 10) (J 1) = some (J a) := by rw [alI_ok th.a19 (by omega) (by omega) (by omega), F.e (by unfold ATo; omega), ha]
      have eb : alI h' (o + 10) (J 2) = some (J b) := by rw [alI_ok th.a19 (by omega) (by omega) (by omega), F.e (by unfold ATo; omega), hbb]
      show ∃ s', _ ∧ b_X12_moves_6 o (J d) (J (10 * d + e)) (J (lnT T d e)) (fun v4q v5q hq => k (v4q, v5q, hq)) (J s4) (J i) h' = _
      have hm : 0 ≤ mvS a (if b < i then i - 1 else i) ∧ mvS a (if b < i then i - 1 else i) ≤ i + 1 := by
        unfold mvS
        split <;> split <;> omega
      have e0 : b_X12_moves_6 o (J d) (J (10 * d + e)) (J (lnT T d e)) (fun v4q v5q hq => k (v4q, v5q, hq)) (J s4) (J i) h' = j_X12_moves_30 o (J d) (J (10 * d + e)) (J (lnT T d e)) (J i) (J s4) (J (if s4 = a then 1 else 0)) h' (fun v4q v5q hq => k (v4q, v5q, hq)) := by
        by_cases c : s4 = a
        · rw [if_pos c]
          simp (disch := omega) only [b_X12_moves_6, th.r19, ea, lm8, lm2, lm1, l0, l1, l2, l3, l4, l5, l6, l7, l8, l9, l10, l11, l12, l13, l14, l15, l16, l17, l18, l19, l20, l21, l22, l23, l24, l25, l27, l31, l32, l40, l46, l48, l50, l57, l59, l63, l86, l96, l97, l100, l110, l114, l122, l127, l200, l255, l300, l319, l320, l340, l441, l456, l580, l600, l800, l886, l1206, l1526, J_add, J_sub, J_mul, J_neg, J_lt, J_le, J_eq, jT, jF, iT, iF, eT, eF, aT, aF, ite_true, ite_false, ite_not, bs]
        · rw [if_neg c]
          have : s4 < a ∨ a < s4 := by omega
          have hs2 : s4 ≤ 30 := by rw [if_neg c] at hs; omega
          simp (disch := omega) only [b_X12_moves_6, th.r19, ea, lm8, lm2, lm1, l0, l1, l2, l3, l4, l5, l6, l7, l8, l9, l10, l11, l12, l13, l14, l15, l16, l17, l18, l19, l20, l21, l22, l23, l24, l25, l27, l31, l32, l40, l46, l48, l50, l57, l59, l63, l86, l96, l97, l100, l110, l114, l122, l127, l200, l255, l300, l319, l320, l340, l441, l456, l580, l600, l800, l886, l1206, l1526, J_add, J_sub, J_mul, J_neg, J_lt, J_le, J_eq, jT, jF, iT, iF, eT, eF, aT, aF, ite_true, ite_false, ite_not, bs]
      have hs3 : s4 ≤ 30 := by
        by_cases c : s4 = a
        · omega
        · rw [if_neg c] at hs; omega
      rw [e0]
      generalize hM : mvS a (if b < i then i - 1 else i) = M at *
      have hr1 : 0 ≤ (if s4 = a then (1 : Int) else 0) ∧ (if s4 = a then (1 : Int) else 0) ≤ 1 := by split <;> omega
      generalize (if s4 = a then (1 : Int) else 0) = y at *
      by_cases ci : i = b
      · obtain ⟨h2, e2, F2, B2⟩ := B'.copyOne hv a0 a1 (by omega) (by
          rw [pr]
          unfold rMov shW
          rw [if_neg (by omega), if_pos ci]) (fun x10 => j_X12_moves_94 o (J d) (J (10 * d + e)) (J (lnT T d e)) (J (s4 + y)) (J i) x10 (fun v4q v5q hq => k (v4q, v5q, hq)))
        refine ⟨(J (s4 + y), J (i + 1), h2), ⟨s4 + y, h2, rfl, F.trans F2, B2, by omega, ?_⟩, ?_⟩
        · rw [if_pos (show b < i + 1 by omega), show i + 1 - 1 = i by omega, hs]
          rw [if_neg (by omega)] at hM
          have : ¬ M = a := by
            rw [← hM]
            unfold mvS
            split <;> omega
          rw [if_neg this, ← hM]
          omega
        · refine Eq.trans ?_ (e2.trans ?_)
          · simp (disch := omega) only [j_X12_moves_30, th.r18, th.r19, ea, eb, lm8, lm2, lm1, l0, l1, l2, l3, l4, l5, l6, l7, l8, l9, l10, l11, l12, l13, l14, l15, l16, l17, l18, l19, l20, l21, l22, l23, l24, l25, l27, l31, l32, l40, l46, l48, l50, l57, l59, l63, l86, l96, l97, l100, l110, l114, l122, l127, l200, l255, l300, l319, l320, l340, l441, l456, l580, l600, l800, l886, l1206, l1526, J_add, J_sub, J_mul, J_neg, J_lt, J_le, J_eq, jT, jF, iT, iF, eT, eF, aT, aF, ite_true, ite_false, ite_not, bs]
          · simp (disch := omega) only [j_X12_moves_94, lm8, lm2, lm1, l0, l1, l2, l3, l4, l5, l6, l7, l8, l9, l10, l11, l12, l13, l14, l15, l16, l17, l18, l19, l20, l21, l22, l23, l24, l25, l27, l31, l32, l40, l46, l48, l50, l57, l59, l63, l86, l96, l97, l100, l110, l114, l122, l127, l200, l255, l300, l319, l320, l340, l441, l456, l580, l600, l800, l886, l1206, l1526, J_add, J_sub, J_mul, J_neg, J_lt, J_le, J_eq, jT, jF, iT, iF, eT, eF, aT, aF, ite_true, ite_false, ite_not, bs]
      · have hM2 : M < lnT T d e := by
          rw [← hM]
          unfold mvS
          split <;> split <;> omega
        have hne : ¬ M = a := by
          rw [← hM]
          unfold mvS
          split <;> split <;> omega
        obtain ⟨h2, e2, F2, B2⟩ := B'.copyOne hv (i := M) (by omega) hM2 (by omega) (by
          rw [pr]
          unfold rMov shW
          rw [← hM]
          unfold mvS
          dsimp only
          by_cases c1 : i < b
          · rw [if_pos c1, if_neg (show ¬ b < i by omega)]
            by_cases c2 : i < a
            · rw [if_pos c2, if_neg (by omega)]
            · rw [if_neg c2, if_pos (by omega)]
          · rw [if_neg c1, if_neg ci, if_pos (show b < i by omega)]
            by_cases c2 : i - 1 < a
            · rw [if_pos c2, if_neg (by omega)]
            · rw [if_neg c2, if_pos (by omega)]) (fun x5 => j_X12_moves_94 o (J d) (J (10 * d + e)) (J (lnT T d e)) (J (M + 1)) (J i) x5 (fun v4q v5q hq => k (v4q, v5q, hq)))
        have hib : i < b ∨ b < i := by omega
        refine ⟨(J (M + 1), J (i + 1), h2), ⟨M + 1, h2, rfl, F.trans F2, B2, by omega, ?_⟩, ?_⟩
        · rw [← hM]
          unfold mvS
          by_cases c1 : b < i
          · rw [if_pos c1, if_pos (show b < i + 1 by omega)]
            by_cases c2 : a ≤ i - 1
            · rw [if_pos c2, if_neg (by omega), if_pos (by omega)]
              omega
            · rw [if_neg c2]
              by_cases c3 : i = a
              · rw [if_pos (by omega), if_pos (by omega)]
                omega
              · rw [if_neg (by omega), if_neg (by omega)]
                omega
          · rw [if_neg c1, if_neg (show ¬ b < i + 1 by omega)]
            by_cases c2 : a ≤ i
            · rw [if_pos c2, if_neg (by omega), if_pos (by omega)]
              omega
            · rw [if_neg c2]
              by_cases c3 : i + 1 = a
              · rw [if_pos (by omega), if_pos (by omega)]
              · rw [if_neg (by omega), if_neg (by omega)]
                omega
        · refine Eq.trans ?_ (e2.trans ?_)
          · simp (disch := first | omega | exact hib) only [j_X12_moves_30, th.r18, th.r19, eb, hs, lm8, lm2, lm1, l0, l1, l2, l3, l4, l5, l6, l7, l8, l9, l10, l11, l12, l13, l14, l15, l16, l17, l18, l19, l20, l21, l22, l23, l24, l25, l27, l31, l32, l40, l46, l48, l50, l57, l59, l63, l86, l96, l97, l100, l110, l114, l122, l127, l200, l255, l300, l319, l320, l340, l441, l456, l580, l600, l800, l886, l1206, l1526, J_add, J_sub, J_mul, J_neg, J_lt, J_le, J_eq, jT, jF, iT, iF, eT, eF, aT, aF, ite_true, ite_false, ite_not, bs]
          · simp (disch := omega) only [j_X12_moves_94, lm8, lm2, lm1, l0, l1, l2, l3, l4, l5, l6, l7, l8, l9, l10, l11, l12, l13, l14, l15, l16, l17, l18, l19, l20, l21, l22, l23, l24, l25, l27, l31, l32, l40, l46, l48, l50, l57, l59, l63, l86, l96, l97, l100, l110, l114, l122, l127, l200, l255, l300, l319, l320, l340, l441, l456, l580, l600, l800, l886, l1206, l1526, J_add, J_sub, J_mul, J_neg, J_lt, J_le, J_eq, jT, jF, iT, iF, eT, eF, aT, aF, ite_true, ite_false, ite_not, bs]) (by
      rintro k s ⟨s4, h', rfl, F, -⟩
      show b_X12_moves_6 o (J d) (J (10 * d + e)) (J (lnT T d e)) _ (J s4) (J (lnT T d e)) h' = _
      simp (disch := omega) only [b_X12_moves_6, lm8, lm2, lm1, l0, l1, l2, l3, l4, l5, l6, l7, l8, l9, l10, l11, l12, l13, l14, l15, l16, l17, l18, l19, l20, l21, l22, l23, l24, l25, l27, l31, l32, l40, l46, l48, l50, l57, l59, l63, l86, l96, l97, l100, l110, l114, l122, l127, l200, l255, l300, l319, l320, l340, l441, l456, l580, l600, l800, l886, l1206, l1526, J_add, J_sub, J_mul, J_neg, J_lt, J_le, J_eq, jT, jF, iT, iF, eT, eF, aT, aF, ite_true, ite_false, ite_not, bs])
  exact ⟨h1, e1, F1, B1⟩
/-- the numbers read -/
def RN (h : Hp) (o : Nat) (a b c : Int) : Prop := hE h (o + 10) 0 = a ∧ hE h (o + 10) 1 = b ∧ hE h (o + 10) 2 = c
theorem RT.put (H : RT h o T) {d p w c : Int} (hn : hE h (o + 10) 0 = d) (hp : hE h (o + 10) 1 = p) (hv : vvT T d (T (1 + d) - 1)) (h9 : T (1 + d) ≤ 9) (p0 : 0 ≤ p) (p1 : p ≤ lnT T d (T (1 + d) - 1)) (w0 : 0 ≤ w) (w1 : lnT T d (T (1 + d) - 1) + w ≤ 20) (h5 : T 5 + w ≤ 319) (hws : ∀ i, 0 ≤ i → i < w → wrg (ws i)) (hw : hE h o 21 = w) (hsp : ∀ i, 0 ≤ i → i < w → hE h (o + 11) i = ws i) (hd : hE h o 23 = dt) : ∃ h', m_X12_makeVersion o (J 0) h = some h' ∧ FR (ATo o) h h' ∧ RT h' o (mkT T 0 d w ws (lnT T d (T (1 + d) - 1) + w) (rPut T d (T (1 + d) - 1) p w) dt) := by
  have hb := H.2.1.vb hv
  have K := VK_put (ws := ws) H.2.1 hv h9 p0 p1 w0 w1 h5 hws
  have e0 : alI h (o + 10) (J 0) = some (J d) := by rw [alI_ok H.1.a19 (by omega) (by omega) (by omega), hn]
  obtain ⟨h2, e2, F2, B2⟩ := H.start hv h9 hd ws (rPut T d (T (1 + d) - 1) p w) (fun _ => none) (c := 0) (by omega) (by omega)
  obtain ⟨h3, e3, F3, B3⟩ := B2.round (p := p) (w := w) (c := 0) hv (Or.inl rfl) (by rw [F2.e (by unfold ATo; omega), hp]) (fun q => by omega) w0 (fun _ => ⟨p0, p1, w1, h5, by rw [F2.e (by unfold ATo; omega), hw], hws, fun i i0 i1 => by rw [F2.e (by unfold ATo; omega), hsp i i0 i1], fun q => rfl⟩) (fun q => by omega) (fun q => by omega)
  rw [if_pos rfl, if_pos rfl] at B3
  refine ⟨h3, ?_, F2.trans F3, B3.done K⟩
  simp (disch := omega) only [m_X12_makeVersion, H.1.r19, e0, rc_ok H.tag, H.latest hb.1 hv.2.1, lm8, lm2, lm1, l0, l1, l2, l3, l4, l5, l6, l7, l8, l9, l10, l11, l12, l13, l14, l15, l16, l17, l18, l19, l20, l21, l22, l23, l24, l25, l27, l31, l32, l40, l46, l48, l50, l57, l59, l63, l86, l96, l97, l100, l110, l114, l122, l127, l200, l255, l300, l319, l320, l340, l441, l456, l580, l600, l800, l886, l1206, l1526, J_add, J_sub, J_mul, J_neg, J_lt, J_le, J_eq, jT, jF, iT, iF, eT, eF, aT, aF, ite_true, ite_false, ite_not, bs]
  exact e2.trans e3
theorem RT.cut (H : RT h o T) {d p c : Int} (hn : hE h (o + 10) 0 = d) (hp : hE h (o + 10) 1 = p) (hc : hE h (o + 10) 2 = c) (hv : vvT T d (T (1 + d) - 1)) (h9 : T (1 + d) ≤ 9) (p0 : 0 ≤ p) (c0 : 0 ≤ c) (pc : p + c ≤ lnT T d (T (1 + d) - 1)) (hd : hE h o 23 = dt) : ∃ h', m_X12_makeVersion o (J 1) h = some h' ∧ FR (ATo o) h h' ∧ RT h' o (mkT T 0 d 0 ws (lnT T d (T (1 + d) - 1) - c) (rCut T d (T (1 + d) - 1) p c) dt) := by
  have hb := H.2.1.vb hv
  have K := VK_cut (ws := ws) H.2.1 hv h9 p0 c0 pc
  have e0 : alI h (o + 10) (J 0) = some (J d) := by rw [alI_ok H.1.a19 (by omega) (by omega) (by omega), hn]
  obtain ⟨h2, e2, F2, B2⟩ := H.start hv h9 hd ws (rCut T d (T (1 + d) - 1) p c) (fun _ => none) (c := 1) (by omega) (by omega)
  obtain ⟨h3, e3, F3, B3⟩ := B2.round (p := p) (w := c) (c := 1) hv (Or.inr (Or.inl rfl)) (by rw [F2.e (by unfold ATo; omega), hp]) (fun _ => by rw [F2.e (by unfold ATo; omega), hc]) c0 (fun q => by omega) (fun _ => ⟨p0, pc, fun q => rfl⟩) (fun q => by omega)
  rw [if_neg (by omega), if_neg (by omega), if_pos rfl] at B3
  refine ⟨h3, ?_, F2.trans F3, B3.done K⟩
  simp (disch := omega) only [m_X12_makeVersion, H.1.r19, e0, rc_ok H.tag, H.latest hb.1 hv.2.1, lm8, lm2, lm1, l0, l1, l2, l3, l4, l5, l6, l7, l8, l9, l10, l11, l12, l13, l14, l15, l16, l17, l18, l19, l20, l21, l22, l23, l24, l25, l27, l31, l32, l40, l46, l48, l50, l57, l59, l63, l86, l96, l97, l100, l110, l114, l122, l127, l200, l255, l300, l319, l320, l340, l441, l456, l580, l600, l800, l886, l1206, l1526, J_add, J_sub, J_mul, J_neg, J_lt, J_le, J_eq, jT, jF, iT, iF, eT, eF, aT, aF, ite_true, ite_false, ite_not, bs]
  exact e2.trans e3
theorem RT.back (H : RT h o T) {d v : Int} (hn : hE h (o + 10) 0 = d) (hp : hE h (o + 10) 1 = v) (hv : vvT T d v) (h9 : T (1 + d) ≤ 9) (hd : hE h o 23 = dt) : ∃ h', m_X12_makeVersion o (J 3) h = some h' ∧ FR (ATo o) h h' ∧ RT h' o (mkT T 0 d 0 ws (lnT T d v) (fun q => rwT T d v q) dt) := by
  have hb := H.2.1.vb hv
  have K := VK_bck (ws := ws) H.2.1 hv h9
  have e0 : alI h (o + 10) (J 0) = some (J d) := by rw [alI_ok H.1.a19 (by omega) (by omega) (by omega), hn]
  have e1 : alI h (o + 10) (J 1) = some (J v) := by rw [alI_ok H.1.a19 (by omega) (by omega) (by omega), hp]
  obtain ⟨h2, e2, F2, B2⟩ := H.start hv h9 hd ws (fun q => rwT T d v q) (fun _ => none) (c := 3) (by omega) (by omega)
  obtain ⟨h3, e3, F3, B3⟩ := B2.round (p := v) (w := 0) (c := 3) hv (Or.inr (Or.inr rfl)) (by rw [F2.e (by unfold ATo; omega), hp]) (fun q => by omega) (Int.le_refl 0) (fun q => by omega) (fun q => by omega) (fun _ q => rfl)
  rw [if_neg (by omega), if_neg (by omega), if_neg (by omega)] at B3
  refine ⟨h3, ?_, F2.trans F3, B3.done K⟩
  simp (disch := omega) only [m_X12_makeVersion, H.1.r19, e0, e1, X12_at_ok, lm8, lm2, lm1, l0, l1, l2, l3, l4, l5, l6, l7, l8, l9, l10, l11, l12, l13, l14, l15, l16, l17, l18, l19, l20, l21, l22, l23, l24, l25, l27, l31, l32, l40, l46, l48, l50, l57, l59, l63, l86, l96, l97, l100, l110, l114, l122, l127, l200, l255, l300, l319, l320, l340, l441, l456, l580, l600, l800, l886, l1206, l1526, J_add, J_sub, J_mul, J_neg, J_lt, J_le, J_eq, jT, jF, iT, iF, eT, eF, aT, aF, ite_true, ite_false, ite_not, bs]
  exact e2.trans e3
theorem RT.mov (H : RT h o T) {d a b : Int} (hn : hE h (o + 10) 0 = d) (hp : hE h (o + 10) 1 = a) (hc : hE h (o + 10) 2 = b) (hv : vvT T d (T (1 + d) - 1)) (h9 : T (1 + d) ≤ 9) (a0 : 0 ≤ a) (a1 : a < lnT T d (T (1 + d) - 1)) (b0 : 0 ≤ b) (b1 : b < lnT T d (T (1 + d) - 1)) (hd : hE h o 23 = dt) : ∃ h', m_X12_makeVersion o (J 2) h = some h' ∧ FR (ATo o) h h' ∧ RT h' o (mkT T 0 d 0 ws (lnT T d (T (1 + d) - 1)) (rMov T d (T (1 + d) - 1) a b) dt) := by
  have hb := H.2.1.vb hv
  have K := VK_mov (ws := ws) H.2.1 hv h9 a0 a1 b0 b1
  have e0 : alI h (o + 10) (J 0) = some (J d) := by rw [alI_ok H.1.a19 (by omega) (by omega) (by omega), hn]
  obtain ⟨h2, e2, F2, B2⟩ := H.begin hb.1 hv.2.1 h9 hd ws (rMov T d (T (1 + d) - 1) a b)
  obtain ⟨h3, e3, F3, B3⟩ := B2.moves hv (by rw [F2.e (by unfold ATo; omega), hp]) (by rw [F2.e (by unfold ATo; omega), hc]) a0 a1 b0 b1 (fun q => rfl)
  have e4 : alI h (o + 9) (J (46 + (10 * d + (T (1 + d) - 1)))) = some (J (lnT T d (T (1 + d) - 1))) := H.told (by omega) (by omega)
  refine ⟨h3, ?_, F2.trans F3, B3.done K⟩
  simp (disch := omega) only [m_X12_makeVersion, j_X12_makeVersion_30, H.1.r19, H.1.r18, e0, e4, rc_ok H.tag, rc_ok B2.tag, H.latest hb.1 hv.2.1, e2, e3, lm8, lm2, lm1, l0, l1, l2, l3, l4, l5, l6, l7, l8, l9, l10, l11, l12, l13, l14, l15, l16, l17, l18, l19, l20, l21, l22, l23, l24, l25, l27, l31, l32, l40, l46, l48, l50, l57, l59, l63, l86, l96, l97, l100, l110, l114, l122, l127, l200, l255, l300, l319, l320, l340, l441, l456, l580, l600, l800, l886, l1206, l1526, J_add, J_sub, J_mul, J_neg, J_lt, J_le, J_eq, jT, jF, iT, iF, eT, eF, aT, aF, ite_true, ite_false, ite_not, bs]
/-- whether what a change speaks of is there -/
def thB (T : Int → Int) (c d a b : Int) : Bool := if c = 0 then decide (a ≤ lnT T d (T (1 + d) - 1)) else if c = 1 then decide (a + b ≤ lnT T d (T (1 + d) - 1)) else if c = 2 then decide (a < lnT T d (T (1 + d) - 1) ∧ b < lnT T d (T (1 + d) - 1)) else decide (a < T (1 + d))
theorem RT.isThere (H : RT h o T) {c d a b : Int} (c0 : 0 ≤ c ∧ c ≤ 3) (hn : hE h (o + 10) 0 = d) (hp : hE h (o + 10) 1 = a) (hc : hE h (o + 10) 2 = b) (d0 : 0 ≤ d) (d1 : d < T 0) (a0 : 0 ≤ a) (a1 : a ≤ 100) (b0 : c = 1 ∨ c = 2 → 0 ≤ b ∧ b ≤ 100) : m_X12_isThere o (J c) h = some (J (b01 (thB T c d a b))) := by
  have h0 := H.2.1.n0
  have hnv := H.2.1.nv d0 (by omega)
  have h1 := H.2.1.2.1 d d0 d1
  have hv : vvT T d (T (1 + d) - 1) := ⟨d0, d1, by omega, by omega⟩
  have hl := H.2.1.ln hv
  have e0 : alI h (o + 10) (J 0) = some (J d) := by rw [alI_ok H.1.a19 (by omega) (by omega) (by omega), hn]
  have e1 : alI h (o + 10) (J 1) = some (J a) := by rw [alI_ok H.1.a19 (by omega) (by omega) (by omega), hp]
  have e2 : alI h (o + 10) (J 2) = some (J b) := by rw [alI_ok H.1.a19 (by omega) (by omega) (by omega), hc]
  have e3 : alI h (o + 9) (J (46 + (10 * d + (T (1 + d) - 1)))) = some (J (lnT T d (T (1 + d) - 1))) := H.told (by omega) (by omega)
  have e4 : alI h (o + 9) (J (1 + d)) = some (J (T (1 + d))) := H.told (by omega) (by omega)
  generalize hL : lnT T d (T (1 + d) - 1) = L at *
  unfold thB
  rw [hL]
  have : c = 0 ∨ c = 1 ∨ c = 2 ∨ c = 3 := by omega
  rcases this with rfl | rfl | rfl | rfl
  · rw [if_pos rfl]
    by_cases q : L < a
    · rw [decide_eq_false (by omega)]
      simp (disch := omega) only [m_X12_isThere, j_X12_isThere_63, H.1.r18, H.1.r19, e0, e1, e3, rc_ok H.tag, H.latest d0 d1, zb0, b01, cond_false, lm8, lm2, lm1, l0, l1, l2, l3, l4, l5, l6, l7, l8, l9, l10, l11, l12, l13, l14, l15, l16, l17, l18, l19, l20, l21, l22, l23, l24, l25, l27, l31, l32, l40, l46, l48, l50, l57, l59, l63, l86, l96, l97, l100, l110, l114, l122, l127, l200, l255, l300, l319, l320, l340, l441, l456, l580, l600, l800, l886, l1206, l1526, J_add, J_sub, J_mul, J_neg, J_lt, J_le, J_eq, jT, jF, iT, iF, eT, eF, aT, aF, ite_true, ite_false, ite_not, bs]
      rfl
    · rw [decide_eq_true (by omega)]
      simp (disch := omega) only [m_X12_isThere, j_X12_isThere_63, H.1.r18, H.1.r19, e0, e1, e3, rc_ok H.tag, H.latest d0 d1, zb1, b01, cond_true, lm8, lm2, lm1, l0, l1, l2, l3, l4, l5, l6, l7, l8, l9, l10, l11, l12, l13, l14, l15, l16, l17, l18, l19, l20, l21, l22, l23, l24, l25, l27, l31, l32, l40, l46, l48, l50, l57, l59, l63, l86, l96, l97, l100, l110, l114, l122, l127, l200, l255, l300, l319, l320, l340, l441, l456, l580, l600, l800, l886, l1206, l1526, J_add, J_sub, J_mul, J_neg, J_lt, J_le, J_eq, jT, jF, iT, iF, eT, eF, aT, aF, ite_true, ite_false, ite_not, bs]
  · rw [if_neg (by omega), if_pos rfl]
    have hb2 := b0 (by omega)
    by_cases q : L < a + b
    · rw [decide_eq_false (by omega)]
      simp (disch := omega) only [m_X12_isThere, j_X12_isThere_86, H.1.r18, H.1.r19, e0, e1, e2, e3, rc_ok H.tag, H.latest d0 d1, zb0, b01, cond_false, lm8, lm2, lm1, l0, l1, l2, l3, l4, l5, l6, l7, l8, l9, l10, l11, l12, l13, l14, l15, l16, l17, l18, l19, l20, l21, l22, l23, l24, l25, l27, l31, l32, l40, l46, l48, l50, l57, l59, l63, l86, l96, l97, l100, l110, l114, l122, l127, l200, l255, l300, l319, l320, l340, l441, l456, l580, l600, l800, l886, l1206, l1526, J_add, J_sub, J_mul, J_neg, J_lt, J_le, J_eq, jT, jF, iT, iF, eT, eF, aT, aF, ite_true, ite_false, ite_not, bs]
      rfl
    · rw [decide_eq_true (by omega)]
      simp (disch := omega) only [m_X12_isThere, j_X12_isThere_86, H.1.r18, H.1.r19, e0, e1, e2, e3, rc_ok H.tag, H.latest d0 d1, zb1, b01, cond_true, lm8, lm2, lm1, l0, l1, l2, l3, l4, l5, l6, l7, l8, l9, l10, l11, l12, l13, l14, l15, l16, l17, l18, l19, l20, l21, l22, l23, l24, l25, l27, l31, l32, l40, l46, l48, l50, l57, l59, l63, l86, l96, l97, l100, l110, l114, l122, l127, l200, l255, l300, l319, l320, l340, l441, l456, l580, l600, l800, l886, l1206, l1526, J_add, J_sub, J_mul, J_neg, J_lt, J_le, J_eq, jT, jF, iT, iF, eT, eF, aT, aF, ite_true, ite_false, ite_not, bs]
  · rw [if_neg (by omega), if_neg (by omega), if_pos rfl]
    have hb2 := b0 (by omega)
    by_cases q : L ≤ a
    · rw [decide_eq_false (by omega)]
      simp (disch := omega) only [m_X12_isThere, j_X12_isThere_112, H.1.r18, H.1.r19, e0, e1, e2, e3, rc_ok H.tag, H.latest d0 d1, zb0, b01, cond_false, lm8, lm2, lm1, l0, l1, l2, l3, l4, l5, l6, l7, l8, l9, l10, l11, l12, l13, l14, l15, l16, l17, l18, l19, l20, l21, l22, l23, l24, l25, l27, l31, l32, l40, l46, l48, l50, l57, l59, l63, l86, l96, l97, l100, l110, l114, l122, l127, l200, l255, l300, l319, l320, l340, l441, l456, l580, l600, l800, l886, l1206, l1526, J_add, J_sub, J_mul, J_neg, J_lt, J_le, J_eq, jT, jF, iT, iF, eT, eF, aT, aF, ite_true, ite_false, ite_not, bs]
      rfl
    · by_cases q2 : L ≤ b
      · rw [decide_eq_false (by omega)]
        simp (disch := omega) only [m_X12_isThere, j_X12_isThere_112, H.1.r18, H.1.r19, e0, e1, e2, e3, rc_ok H.tag, H.latest d0 d1, zb0, b01, cond_false, lm8, lm2, lm1, l0, l1, l2, l3, l4, l5, l6, l7, l8, l9, l10, l11, l12, l13, l14, l15, l16, l17, l18, l19, l20, l21, l22, l23, l24, l25, l27, l31, l32, l40, l46, l48, l50, l57, l59, l63, l86, l96, l97, l100, l110, l114, l122, l127, l200, l255, l300, l319, l320, l340, l441, l456, l580, l600, l800, l886, l1206, l1526, J_add, J_sub, J_mul, J_neg, J_lt, J_le, J_eq, jT, jF, iT, iF, eT, eF, aT, aF, ite_true, ite_false, ite_not, bs]
        rfl
      · rw [decide_eq_true (by omega)]
        simp (disch := omega) only [m_X12_isThere, j_X12_isThere_112, H.1.r18, H.1.r19, e0, e1, e2, e3, rc_ok H.tag, H.latest d0 d1, zb1, b01, cond_true, lm8, lm2, lm1, l0, l1, l2, l3, l4, l5, l6, l7, l8, l9, l10, l11, l12, l13, l14, l15, l16, l17, l18, l19, l20, l21, l22, l23, l24, l25, l27, l31, l32, l40, l46, l48, l50, l57, l59, l63, l86, l96, l97, l100, l110, l114, l122, l127, l200, l255, l300, l319, l320, l340, l441, l456, l580, l600, l800, l886, l1206, l1526, J_add, J_sub, J_mul, J_neg, J_lt, J_le, J_eq, jT, jF, iT, iF, eT, eF, aT, aF, ite_true, ite_false, ite_not, bs]
  · rw [if_neg (by omega), if_neg (by omega), if_neg (by omega)]
    by_cases q : T (1 + d) ≤ a
    · rw [decide_eq_false (by omega)]
      simp (disch := omega) only [m_X12_isThere, j_X12_isThere_140, H.1.r18, H.1.r19, e0, e1, e3, e4, rc_ok H.tag, H.latest d0 d1, zb0, b01, cond_false, lm8, lm2, lm1, l0, l1, l2, l3, l4, l5, l6, l7, l8, l9, l10, l11, l12, l13, l14, l15, l16, l17, l18, l19, l20, l21, l22, l23, l24, l25, l27, l31, l32, l40, l46, l48, l50, l57, l59, l63, l86, l96, l97, l100, l110, l114, l122, l127, l200, l255, l300, l319, l320, l340, l441, l456, l580, l600, l800, l886, l1206, l1526, J_add, J_sub, J_mul, J_neg, J_lt, J_le, J_eq, jT, jF, iT, iF, eT, eF, aT, aF, ite_true, ite_false, ite_not, bs]
      rfl
    · rw [decide_eq_true (by omega)]
      simp (disch := omega) only [m_X12_isThere, j_X12_isThere_140, H.1.r18, H.1.r19, e0, e1, e3, e4, rc_ok H.tag, H.latest d0 d1, zb1, b01, cond_true, lm8, lm2, lm1, l0, l1, l2, l3, l4, l5, l6, l7, l8, l9, l10, l11, l12, l13, l14, l15, l16, l17, l18, l19, l20, l21, l22, l23, l24, l25, l27, l31, l32, l40, l46, l48, l50, l57, l59, l63, l86, l96, l97, l100, l110, l114, l122, l127, l200, l255, l300, l319, l320, l340, l441, l456, l580, l600, l800, l886, l1206, l1526, J_add, J_sub, J_mul, J_neg, J_lt, J_le, J_eq, jT, jF, iT, iF, eT, eF, aT, aF, ite_true, ite_false, ite_not, bs]
end TM
