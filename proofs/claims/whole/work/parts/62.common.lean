/-! PURE PART: the longest common row, both sides -/
def lrN (s : Nat → Bool) (prev : Nat → Int) : Nat → Int
  | 0 => 0
  | j + 1 => if s j = true then prev j + 1 else max (prev (j + 1)) (lrN s prev j)
def lcN (s : Nat → Nat → Bool) : Nat → Nat → Int
  | 0 => fun _ => 0
  | i + 1 => lrN (s i) (lcN s i)
def lcT (T : Int → Int) (d v e w i j : Int) : Int := lcN (fun i j => decide (wdT T (rwT T d v i) = wdT T (rwT T e w j))) i.toNat j.toNat
theorem lcN_rg (s : Nat → Nat → Bool) : ∀ i j : Nat, 0 ≤ lcN s i j ∧ lcN s i j ≤ i := by
  intro i
  induction i with
  | zero => intro j; exact ⟨Int.le_refl 0, Int.le_refl 0⟩
  | succ i ih =>
    intro j
    show 0 ≤ lrN (s i) (lcN s i) j ∧ lrN (s i) (lcN s i) j ≤ ((i + 1 : Nat) : Int)
    induction j with
    | zero => exact ⟨Int.le_refl 0, by show (0 : Int) ≤ _; omega⟩
    | succ j jh =>
      have h1 := ih j
      have h2 := ih (j + 1)
      show 0 ≤ (if s i j = true then lcN s i j + 1 else max (lcN s i (j + 1)) (lrN (s i) (lcN s i) j)) ∧ (if s i j = true then lcN s i j + 1 else max (lcN s i (j + 1)) (lrN (s i) (lcN s i) j)) ≤ ((i + 1 : Nat) : Int)
      split <;> omega
section CO
variable {h : Hp} {o : Nat} {T : Int → Int}
theorem lc_0i {d v e w i j : Int} (hi : i ≤ 0) : lcT T d v e w i j = 0 := by
  unfold lcT
  rw [show i.toNat = 0 by omega]
  rfl
theorem lc_0j {d v e w i j : Int} (hj : j ≤ 0) : lcT T d v e w i j = 0 := by
  unfold lcT
  rw [show j.toNat = 0 by omega]
  cases i.toNat <;> rfl
theorem lc_succ {d v e w i j : Int} (hi : 0 ≤ i) (hj : 0 ≤ j) : lcT T d v e w (i + 1) (j + 1) = if wdT T (rwT T d v i) = wdT T (rwT T e w j) then lcT T d v e w i j + 1 else max (lcT T d v e w i (j + 1)) (lcT T d v e w (i + 1) j) := by
  unfold lcT
  rw [show (i + 1).toNat = i.toNat + 1 by omega, show (j + 1).toNat = j.toNat + 1 by omega]
  show (if decide (wdT T (rwT T d v (i.toNat : Int)) = wdT T (rwT T e w (j.toNat : Int))) = true then _ else _) = _
  rw [Int.toNat_of_nonneg hi, Int.toNat_of_nonneg hj]
  by_cases hc : wdT T (rwT T d v i) = wdT T (rwT T e w j)
  · rw [if_pos (decide_eq_true hc), if_pos hc]
  · rw [if_neg (by rw [decide_eq_false hc]; decide), if_neg hc]
    rfl
theorem lc_rg {d v e w i j : Int} (hi : i ≤ 20) : 0 ≤ lcT T d v e w i j ∧ lcT T d v e w i j ≤ 20 := by
  have := lcN_rg (fun i j => decide (wdT T (rwT T d v i) = wdT T (rwT T e w j))) i.toNat j.toNat
  unfold lcT
  omega
/-- the History object's shape -/
def TH (t : Tp) (x : Nat) : Prop := t.1 x = 3 ∧ t.2.2 x 0 = x + 1 ∧ TI t (x + 1) 21
theorem TH.r0 {x : Nat} (H : TH (top h) x) : gfR h x 3 0 = some (x + 1) := gfR_ok H.1 H.2.1
theorem TH.tag {x : Nat} (H : TH (top h) x) : hTag h x = 3 := H.1
def AHr (x b k : Nat) : Prop := b = x + 1
theorem CA.frH {h' : Hp} {x : Nat} (H : CA h o T) (hx : x + 1 < o ∨ o + 9 < x + 1) (F : FR (AHr x) h h') : CA h' o T := by
  refine H.frame F ?_ ?_ (fun k => ?_) (fun k => ?_) (fun k => ?_) (fun k => ?_) (fun k => ?_) (fun k => ?_) <;> · unfold AHr; omega
theorem CA.longestRow (H : CA h o T) {x : Nat} (X : TH (top h) x) (hx : x + 1 < o ∨ o + 9 < x + 1) {d v e w : Int} (hv : vvT T d v) (hw : vvT T e w) : ∃ h', m_X2_longestRow x o (J d) (J v) (J e) (J w) h = some (J (lcT T d v e w (lnT T d v) (lnT T e w)), h') ∧ FR (AHr x) h h' := by
  have hb := H.wf.vb hv
  have hb2 := H.wf.vb hw
  have hl := H.wf.ln hv
  have hm := H.wf.ln hw
  generalize hmd : lnT T e w = m at *
  generalize hnd : lnT T d v = n at *
  unfold m_X2_longestRow
  rw [rc_ok H.tag, H.lengthOf hw, bs, hmd]
  -- the row of zeros
  obtain ⟨s, ⟨h1, rfl, F1, p1⟩, e1⟩ := loop_ex (body := fun (k : Int32 × Hp → Option (Int32 × Hp)) (s : Int32 × Hp) => b_X2_longestRow_13 x o (J d) (J v) (J e) (J w) (J m) (fun hz2 => j_X2_longestRow_36 x o (J d) (J v) (J e) (J w) (J m) hz2) (fun v7q hq => k (v7q, hq)) s.1 s.2) (s := (J 0, h)) (fun i s => ∃ h', s = (J i, h') ∧ FR (AHr x) h h' ∧ ∀ j, 0 ≤ j → j < i → hE h' (x + 1) j = 0) (fun s => j_X2_longestRow_36 x o (J d) (J v) (J e) (J w) (J m) s.2) (m + 1) (by omega) (by omega) ⟨h, rfl, FR.refl _ _, fun j _ _ => by omega⟩ (by
      rintro K i s i0 i1 ⟨h', rfl, F, p⟩
      have X' : TH (top h') x := by rw [F.1]; exact X
      refine ⟨(J (i + 1), wE h' (x + 1) i 0), ⟨_, rfl, F.trans (FR.wE rfl), fun j j0 j1 => ?_⟩, ?_⟩
      · rw [hE_wE i0 j0 (by omega) (by omega)]
        by_cases q : j = i
        · rw [if_pos ⟨rfl, q⟩]
        · rw [if_neg (fun z => q z.2)]
          exact p j j0 (by omega)
      · show b_X2_longestRow_13 x o (J d) (J v) (J e) (J w) (J m) _ (fun v7q hq => K (v7q, hq)) (J i) h' = _
        simp (disch := omega) only [b_X2_longestRow_13, X'.r0, X5_set_ok X'.2.2, lm8, lm2, lm1, l0, l1, l2, l3, l4, l5, l6, l7, l8, l9, l10, l11, l12, l13, l14, l15, l16, l17, l18, l19, l20, l21, l22, l23, l24, l25, l27, l31, l32, l40, l46, l48, l50, l57, l59, l63, l86, l96, l97, l100, l110, l114, l122, l127, l200, l255, l300, l319, l320, l340, l441, l456, l580, l600, l800, l886, l1206, l1526, J_add, J_sub, J_mul, J_neg, J_lt, J_le, J_eq, jT, jF, iT, iF, eT, eF, aT, aF, ite_true, ite_false, ite_not, bs]) (by
      rintro K s ⟨h', rfl, -⟩
      show b_X2_longestRow_13 x o (J d) (J v) (J e) (J w) (J m) _ (fun v7q hq => K (v7q, hq)) (J (m + 1)) h' = _
      simp (disch := omega) only [b_X2_longestRow_13, lm8, lm2, lm1, l0, l1, l2, l3, l4, l5, l6, l7, l8, l9, l10, l11, l12, l13, l14, l15, l16, l17, l18, l19, l20, l21, l22, l23, l24, l25, l27, l31, l32, l40, l46, l48, l50, l57, l59, l63, l86, l96, l97, l100, l110, l114, l122, l127, l200, l255, l300, l319, l320, l340, l441, l456, l580, l600, l800, l886, l1206, l1526, J_add, J_sub, J_mul, J_neg, J_lt, J_le, J_eq, jT, jF, iT, iF, eT, eF, aT, aF, ite_true, ite_false, ite_not, bs])
  have G1 := H.frH hx F1
  -- row by row
  have inner : ∀ (p : Int) (K : Hp → Option (Int32 × Hp)) (h1 : Hp), 0 ≤ p → p < n → FR (AHr x) h h1 → (∀ j, 0 ≤ j → j ≤ m → hE h1 (x + 1) j = lcT T d v e w p j) → ∃ h2, l_X2_longestRow_66 x o (J d) (J v) (J e) (J w) (J m) (J p) (J (wide (wdT T (rwT T d v p)))) K (J 0) (J 1) h1 = K h2 ∧ FR (AHr x) h h2 ∧ (∀ j, 0 ≤ j → j ≤ m → hE h2 (x + 1) j = lcT T d v e w (p + 1) j) := by
    intro p K h1 p0 p1 F q
    unfold l_X2_longestRow_66
    have hpp : ppT T d v p := ⟨hv, p0, by omega⟩
    obtain ⟨s, ⟨h2, rfl, F2, q2⟩, e2⟩ := loop_ex (body := fun (k : Int32 × Int32 × Hp → Option (Int32 × Hp)) (s : Int32 × Int32 × Hp) => b_X2_longestRow_66 x o (J d) (J v) (J e) (J w) (J m) (J p) (J (wide (wdT T (rwT T d v p)))) K (fun v9q v10q hq => k (v9q, v10q, hq)) s.1 s.2.1 s.2.2) (s := (J 0, J 1, h1)) (fun j s => ∃ h', s = (J (lcT T d v e w p j), J (j + 1), h') ∧ FR (AHr x) h h' ∧ ∀ i, 0 ≤ i → i ≤ m → hE h' (x + 1) i = if i ≤ j then lcT T d v e w (p + 1) i else lcT T d v e w p i) (fun s => K s.2.2) m hm.1 (by omega) ⟨h1, by rw [lc_0j (Int.le_refl 0)]; rfl, F, fun i i0 i1 => by
        by_cases z : i ≤ 0
        · rw [if_pos z, q i i0 i1, lc_0j z, lc_0j z]
        · rw [if_neg z, q i i0 i1]⟩ (by
        rintro K1 j s j0 j1 ⟨h', rfl, F, q⟩
        have X' : TH (top h') x := by rw [F.1]; exact X
        have G := H.frH hx F
        have hpj : ppT T e w j := ⟨hw, j0, by omega⟩
        have ea : m_X5_at (x + 1) (J (j + 1)) h' = some (J (lcT T d v e w p (j + 1))) := by
          rw [X5_at_ok X'.2.2 (by omega) (by omega) (by omega), atE_in (by omega) (by omega), q _ (by omega) (by omega), if_neg (by omega)]
        have eb : m_X5_at (x + 1) (J j) h' = some (J (lcT T d v e w (p + 1) j)) := by
          rw [X5_at_ok X'.2.2 (by omega) (by omega) (by omega), atE_in (by omega) (by omega), q _ (by omega) (by omega), if_pos (by omega)]
        have r1 := lc_rg (T := T) (d := d) (v := v) (e := e) (w := w) (i := p) (j := j + 1) (by omega)
        have r2 := lc_rg (T := T) (d := d) (v := v) (e := e) (w := w) (i := p + 1) (j := j) (by omega)
        have r3 := lc_rg (T := T) (d := d) (v := v) (e := e) (w := w) (i := p + 1) (j := j + 1) (by omega)
        have q1 := H.wf.wd hpp
        have q2 := wide_rg q1.1 q1.2.1
        have q3 := H.wf.wd hpj
        have q4 := wide_rg q3.1 q3.2.1
        have es : m_X0_spellingAt o (J e) (J w) (J (j + 1 - 1)) h' = some (J (wide (wdT T (rwT T e w j)))) := by rw [show j + 1 - 1 = j by omega]; exact G.spellingAt hpj
        have eb2 : m_X5_at (x + 1) (J (j + 1 - 1)) h' = some (J (lcT T d v e w (p + 1) j)) := by rw [show j + 1 - 1 = j by omega]; exact eb
        refine ⟨(J (lcT T d v e w p (j + 1)), J (j + 1 + 1), wE h' (x + 1) (j + 1) (lcT T d v e w (p + 1) (j + 1))), ⟨_, rfl, F.trans (FR.wE rfl), fun i i0 i1 => ?_⟩, ?_⟩
        · rw [hE_wE (by omega) i0 (by omega) (by omega)]
          by_cases z : i = j + 1
          · rw [if_pos ⟨rfl, z⟩, if_pos (by omega), z]
          · rw [if_neg (fun y => z y.2), q i i0 i1]
            by_cases z2 : i ≤ j
            · rw [if_pos z2, if_pos (by omega)]
            · rw [if_neg z2, if_neg (by omega)]
        · show b_X2_longestRow_66 x o (J d) (J v) (J e) (J w) (J m) (J p) (J (wide (wdT T (rwT T d v p)))) K (fun v9q v10q hq => K1 (v9q, v10q, hq)) (J (lcT T d v e w p j)) (J (j + 1)) h' = _
          have lcs := lc_succ (T := T) (d := d) (v := v) (e := e) (w := w) p0 j0
          by_cases hc : wdT T (rwT T d v p) = wdT T (rwT T e w j)
          · rw [if_pos hc] at lcs
            have hc2 : wide (wdT T (rwT T e w j)) = wide (wdT T (rwT T d v p)) := by rw [hc]
            rw [lcs]
            simp (disch := first | omega | exact hc2) only [b_X2_longestRow_66, j_X2_longestRow_106, j_X2_longestRow_142, rc_ok G.tag, X'.r0, ea, es, X5_set_ok X'.2.2, lm8, lm2, lm1, l0, l1, l2, l3, l4, l5, l6, l7, l8, l9, l10, l11, l12, l13, l14, l15, l16, l17, l18, l19, l20, l21, l22, l23, l24, l25, l27, l31, l32, l40, l46, l48, l50, l57, l59, l63, l86, l96, l97, l100, l110, l114, l122, l127, l200, l255, l300, l319, l320, l340, l441, l456, l580, l600, l800, l886, l1206, l1526, J_add, J_sub, J_mul, J_neg, J_lt, J_le, J_eq, jT, jF, iT, iF, eT, eF, aT, aF, ite_true, ite_false, ite_not, bs]
          · rw [if_neg hc] at lcs
            have hc2 : wide (wdT T (rwT T e w j)) < wide (wdT T (rwT T d v p)) ∨ wide (wdT T (rwT T d v p)) < wide (wdT T (rwT T e w j)) := by
              have : wide (wdT T (rwT T e w j)) ≠ wide (wdT T (rwT T d v p)) := fun z => hc (by rw [wide_eq q3 q1] at z; exact z.symm)
              omega
            rw [lcs]
            simp (disch := first | omega | exact hc2) only [b_X2_longestRow_66, j_X2_longestRow_106, j_X2_longestRow_142, rc_ok G.tag, X'.r0, ea, eb2, es, J9_max_ok, X5_set_ok X'.2.2, lm8, lm2, lm1, l0, l1, l2, l3, l4, l5, l6, l7, l8, l9, l10, l11, l12, l13, l14, l15, l16, l17, l18, l19, l20, l21, l22, l23, l24, l25, l27, l31, l32, l40, l46, l48, l50, l57, l59, l63, l86, l96, l97, l100, l110, l114, l122, l127, l200, l255, l300, l319, l320, l340, l441, l456, l580, l600, l800, l886, l1206, l1526, J_add, J_sub, J_mul, J_neg, J_lt, J_le, J_eq, jT, jF, iT, iF, eT, eF, aT, aF, ite_true, ite_false, ite_not, bs]) (by
        rintro K1 s ⟨h', rfl, -⟩
        show b_X2_longestRow_66 x o (J d) (J v) (J e) (J w) (J m) (J p) (J (wide (wdT T (rwT T d v p)))) K (fun v9q v10q hq => K1 (v9q, v10q, hq)) (J (lcT T d v e w p m)) (J (m + 1)) h' = _
        simp (disch := omega) only [b_X2_longestRow_66, lm8, lm2, lm1, l0, l1, l2, l3, l4, l5, l6, l7, l8, l9, l10, l11, l12, l13, l14, l15, l16, l17, l18, l19, l20, l21, l22, l23, l24, l25, l27, l31, l32, l40, l46, l48, l50, l57, l59, l63, l86, l96, l97, l100, l110, l114, l122, l127, l200, l255, l300, l319, l320, l340, l441, l456, l580, l600, l800, l886, l1206, l1526, J_add, J_sub, J_mul, J_neg, J_lt, J_le, J_eq, jT, jF, iT, iF, eT, eF, aT, aF, ite_true, ite_false, ite_not, bs])
    exact ⟨h2, e2, F2, fun j j0 j1 => by rw [q2 j j0 j1, if_pos j1]⟩
  obtain ⟨s, ⟨h3, rfl, F3, p3⟩, e3⟩ := loop_ex (body := fun (k : Int32 × Hp → Option (Int32 × Hp)) (s : Int32 × Hp) => b_X2_longestRow_39 x o (J d) (J v) (J e) (J w) (J m) (fun hz1 => j_X2_longestRow_161 x (J m) hz1) (fun v7q hq => k (v7q, hq)) s.1 s.2) (s := (J 0, h1)) (fun i s => ∃ h', s = (J i, h') ∧ FR (AHr x) h h' ∧ ∀ j, 0 ≤ j → j ≤ m → hE h' (x + 1) j = lcT T d v e w i j) (fun s => j_X2_longestRow_161 x (J m) s.2) n hl.1 (by omega) ⟨h1, rfl, F1, fun j j0 j1 => by rw [lc_0i (Int.le_refl 0)]; exact p1 j j0 (by omega)⟩ (by
      rintro K i s i0 i1 ⟨h', rfl, F, p⟩
      have G := H.frH hx F
      have hpp : ppT T d v i := ⟨hv, i0, by omega⟩
      obtain ⟨h2, e2, F2, q2⟩ := inner i (fun hz3 => j_X2_longestRow_155 x o (J d) (J v) (J e) (J w) (J m) (J i) hz3 (fun hz1 => j_X2_longestRow_161 x (J m) hz1) (fun v7q hq => K (v7q, hq))) h' i0 i1 F p
      refine ⟨(J (i + 1), h2), ⟨h2, rfl, F2, q2⟩, ?_⟩
      show b_X2_longestRow_39 x o (J d) (J v) (J e) (J w) (J m) _ (fun v7q hq => K (v7q, hq)) (J i) h' = _
      have el : m_X0_lengthOf o (J d) (J v) h' = some (J n) := by rw [G.lengthOf hv, hnd]
      simp (disch := omega) only [b_X2_longestRow_39, rc_ok G.tag, el, G.spellingAt hpp, lm8, lm2, lm1, l0, l1, l2, l3, l4, l5, l6, l7, l8, l9, l10, l11, l12, l13, l14, l15, l16, l17, l18, l19, l20, l21, l22, l23, l24, l25, l27, l31, l32, l40, l46, l48, l50, l57, l59, l63, l86, l96, l97, l100, l110, l114, l122, l127, l200, l255, l300, l319, l320, l340, l441, l456, l580, l600, l800, l886, l1206, l1526, J_add, J_sub, J_mul, J_neg, J_lt, J_le, J_eq, jT, jF, iT, iF, eT, eF, aT, aF, ite_true, ite_false, ite_not, bs]
      rw [show (J 1 : Int32) = (1 : Int32) from rfl] at e2
      refine e2.trans ?_
      simp only [j_X2_longestRow_155, lm8, lm2, lm1, l0, l1, l2, l3, l4, l5, l6, l7, l8, l9, l10, l11, l12, l13, l14, l15, l16, l17, l18, l19, l20, l21, l22, l23, l24, l25, l27, l31, l32, l40, l46, l48, l50, l57, l59, l63, l86, l96, l97, l100, l110, l114, l122, l127, l200, l255, l300, l319, l320, l340, l441, l456, l580, l600, l800, l886, l1206, l1526, J_add, J_sub, J_mul, J_neg, J_lt, J_le, J_eq, jT, jF, iT, iF, eT, eF, aT, aF, ite_true, ite_false, ite_not, bs]) (by
      rintro K s ⟨h', rfl, F, -⟩
      have G := H.frH hx F
      show b_X2_longestRow_39 x o (J d) (J v) (J e) (J w) (J m) _ (fun v7q hq => K (v7q, hq)) (J n) h' = _
      have el : m_X0_lengthOf o (J d) (J v) h' = some (J n) := by rw [G.lengthOf hv, hnd]
      simp (disch := omega) only [b_X2_longestRow_39, rc_ok G.tag, el, lm8, lm2, lm1, l0, l1, l2, l3, l4, l5, l6, l7, l8, l9, l10, l11, l12, l13, l14, l15, l16, l17, l18, l19, l20, l21, l22, l23, l24, l25, l27, l31, l32, l40, l46, l48, l50, l57, l59, l63, l86, l96, l97, l100, l110, l114, l122, l127, l200, l255, l300, l319, l320, l340, l441, l456, l580, l600, l800, l886, l1206, l1526, J_add, J_sub, J_mul, J_neg, J_lt, J_le, J_eq, jT, jF, iT, iF, eT, eF, aT, aF, ite_true, ite_false, ite_not, bs])
  have X3 : TH (top h3) x := by rw [F3.1]; exact X
  refine ⟨h3, ?_, F3⟩
  unfold l_X2_longestRow_13
  refine e1.trans ?_
  show j_X2_longestRow_36 x o (J d) (J v) (J e) (J w) (J m) h1 = _
  unfold j_X2_longestRow_36 l_X2_longestRow_39
  refine e3.trans ?_
  have ef : m_X5_at (x + 1) (J m) h3 = some (J (lcT T d v e w n m)) := by
    rw [X5_at_ok X3.2.2 (by omega) (by omega) (by omega), atE_in (by omega) (by omega), p3 m hm.1 (Int.le_refl _)]
  simp only [j_X2_longestRow_161, X3.r0, ef, lm8, lm2, lm1, l0, l1, l2, l3, l4, l5, l6, l7, l8, l9, l10, l11, l12, l13, l14, l15, l16, l17, l18, l19, l20, l21, l22, l23, l24, l25, l27, l31, l32, l40, l46, l48, l50, l57, l59, l63, l86, l96, l97, l100, l110, l114, l122, l127, l200, l255, l300, l319, l320, l340, l441, l456, l580, l600, l800, l886, l1206, l1526, J_add, J_sub, J_mul, J_neg, J_lt, J_le, J_eq, jT, jF, iT, iF, eT, eF, aT, aF, ite_true, ite_false, ite_not, bs]
def AC2 (o b k : Nat) : Prop := b = o + 13
theorem RM.frC {h' : Hp} (H : RM h o T) (F : FR (AC2 o) h h') : RM h' o T := by
  refine H.frame F ?_ (fun k => ?_) <;> · unfold AC2; omega
theorem RM.commonLoop (H : RM h o T) {d v e w : Int} (hv : vvT T d v) (hw : vvT T e w) : ∃ h', l_X12_common_38 o (J d) (J v) (J e) (J w) (fun hz4 => j_X12_common_60 o (J d) (J v) (J e) (J w) hz4) (J 0) h = some (J (lcT T d v e w (lnT T d v) (lnT T e w)), h') ∧ FR (AC2 o) h h' := by
  have hb := H.wf.vb hv
  have hb2 := H.wf.vb hw
  have hl := H.wf.ln hv
  have hm := H.wf.ln hw
  generalize hmd : lnT T e w = m at *
  generalize hnd : lnT T d v = n at *
  obtain ⟨s, ⟨h1, rfl, F1, p1⟩, e1⟩ := loop_ex (body := fun (k : Int32 × Hp → Option (Int32 × Hp)) (s : Int32 × Hp) => b_X12_common_38 o (J d) (J v) (J e) (J w) (fun hz4 => j_X12_common_60 o (J d) (J v) (J e) (J w) hz4) (fun v6q hq => k (v6q, hq)) s.1 s.2) (s := (J 0, h)) (fun i s => ∃ h', s = (J i, h') ∧ FR (AC2 o) h h' ∧ ∀ j, 0 ≤ j → j < i → hE h' (o + 13) j = 0) (fun s => j_X12_common_60 o (J d) (J v) (J e) (J w) s.2) 441 (by omega) (by omega) ⟨h, rfl, FR.refl _ _, fun j _ _ => by omega⟩ (by
      rintro K i s i0 i1 ⟨h', rfl, F, p⟩
      have G := H.frC F
      refine ⟨(J (i + 1), wE h' (o + 13) i 0), ⟨_, rfl, F.trans (FR.wE rfl), fun j j0 j1 => ?_⟩, ?_⟩
      · rw [hE_wE i0 j0 (by omega) (by omega)]
        by_cases q : j = i
        · rw [if_pos ⟨rfl, q⟩]
        · rw [if_neg (fun z => q z.2)]
          exact p j j0 (by omega)
      · show b_X12_common_38 o (J d) (J v) (J e) (J w) _ (fun v6q hq => K (v6q, hq)) (J i) h' = _
        simp (disch := omega) only [b_X12_common_38, G.1.r27, asI_ok G.1.a27, lm8, lm2, lm1, l0, l1, l2, l3, l4, l5, l6, l7, l8, l9, l10, l11, l12, l13, l14, l15, l16, l17, l18, l19, l20, l21, l22, l23, l24, l25, l27, l31, l32, l40, l46, l48, l50, l57, l59, l63, l86, l96, l97, l100, l110, l114, l122, l127, l200, l255, l300, l319, l320, l340, l441, l456, l580, l600, l800, l886, l1206, l1526, J_add, J_sub, J_mul, J_neg, J_lt, J_le, J_eq, jT, jF, iT, iF, eT, eF, aT, aF, ite_true, ite_false, ite_not, bs]) (by
      rintro K s ⟨h', rfl, -⟩
      show b_X12_common_38 o (J d) (J v) (J e) (J w) _ (fun v6q hq => K (v6q, hq)) (J 441) h' = _
      simp (disch := omega) only [b_X12_common_38, lm8, lm2, lm1, l0, l1, l2, l3, l4, l5, l6, l7, l8, l9, l10, l11, l12, l13, l14, l15, l16, l17, l18, l19, l20, l21, l22, l23, l24, l25, l27, l31, l32, l40, l46, l48, l50, l57, l59, l63, l86, l96, l97, l100, l110, l114, l122, l127, l200, l255, l300, l319, l320, l340, l441, l456, l580, l600, l800, l886, l1206, l1526, J_add, J_sub, J_mul, J_neg, J_lt, J_le, J_eq, jT, jF, iT, iF, eT, eF, aT, aF, ite_true, ite_false, ite_not, bs])
  have G1 := H.frC F1
  have inner : ∀ (i : Int) (K : Hp → Option (Int32 × Hp)) (h1 : Hp), 1 ≤ i → i ≤ n → FR (AC2 o) h h1 → (∀ a b, 0 ≤ a → a ≤ 20 → 0 ≤ b → b ≤ m → hE h1 (o + 13) (21 * a + b) = if a < i then lcT T d v e w a b else 0) → ∃ h2, l_X12_common_91 o (J d) (J v) (J e) (J w) (J n) (J m) (J i) K (J 1) h1 = K h2 ∧ FR (AC2 o) h h2 ∧ (∀ a b, 0 ≤ a → a ≤ 20 → 0 ≤ b → b ≤ m → hE h2 (o + 13) (21 * a + b) = if a < i + 1 then lcT T d v e w a b else 0) := by
    intro i K h1 i0 i1 F q
    unfold l_X12_common_91
    have hpp : ppT T d v (i - 1) := ⟨hv, by omega, by omega⟩
    obtain ⟨s, ⟨h2, rfl, F2, q2⟩, e2⟩ := loop_ex (body := fun (k : Int32 × Hp → Option (Int32 × Hp)) (s : Int32 × Hp) => b_X12_common_91 o (J d) (J v) (J e) (J w) (J n) (J m) (J i) K (fun v9q hq => k (v9q, hq)) s.1 s.2) (s := (J 1, h1)) (fun j s => ∃ h', s = (J (j + 1), h') ∧ FR (AC2 o) h h' ∧ ∀ a b, 0 ≤ a → a ≤ 20 → 0 ≤ b → b ≤ m → hE h' (o + 13) (21 * a + b) = if a < i ∨ (a = i ∧ b ≤ j) then lcT T d v e w a b else 0) (fun s => K s.2) m hm.1 (by omega) ⟨h1, rfl, F, fun a b a0 a1 b0 b1 => by
        rw [q a b a0 a1 b0 b1]
        by_cases z : a < i
        · rw [if_pos z, if_pos (Or.inl z)]
        · rw [if_neg z]
          by_cases z2 : a = i ∧ b ≤ 0
          · rw [if_pos (Or.inr z2), lc_0j z2.2]
          · rw [if_neg (by omega)]⟩ (by
        rintro K1 j s j0 j1 ⟨h', rfl, F, q⟩
        have G := H.frC F
        have hpj : ppT T e w j := ⟨hw, j0, by omega⟩
        have r1 := lc_rg (T := T) (d := d) (v := v) (e := e) (w := w) (i := i - 1) (j := j + 1) (by omega)
        have r2 := lc_rg (T := T) (d := d) (v := v) (e := e) (w := w) (i := i) (j := j) (by omega)
        have r3 := lc_rg (T := T) (d := d) (v := v) (e := e) (w := w) (i := i) (j := j + 1) (by omega)
        have r4 := lc_rg (T := T) (d := d) (v := v) (e := e) (w := w) (i := i - 1) (j := j) (by omega)
        have c1 : alI h' (o + 13) (J (21 * i - 21 + (j + 1))) = some (J (lcT T d v e w (i - 1) (j + 1))) := by
          rw [alI_ok G.1.a27 (by omega) (by omega) (by omega), show 21 * i - 21 + (j + 1) = 21 * (i - 1) + (j + 1) by omega, q _ _ (by omega) (by omega) (by omega) (by omega), if_pos (by omega)]
        have c2 : alI h' (o + 13) (J (21 * i + (j + 1) - 1)) = some (J (lcT T d v e w i j)) := by
          rw [alI_ok G.1.a27 (by omega) (by omega) (by omega), show 21 * i + (j + 1) - 1 = 21 * i + j by omega, q _ _ (by omega) (by omega) (by omega) (by omega), if_pos (by omega)]
        have c3 : alI h' (o + 13) (J (21 * i - 22 + (j + 1))) = some (J (lcT T d v e w (i - 1) j)) := by
          rw [alI_ok G.1.a27 (by omega) (by omega) (by omega), show 21 * i - 22 + (j + 1) = 21 * (i - 1) + j by omega, q _ _ (by omega) (by omega) (by omega) (by omega), if_pos (by omega)]
        have q1 := H.wf.wd hpp
        have q3 := H.wf.wd hpj
        have es : m_X12_wordAt o (J e) (J w) (J (j + 1 - 1)) h' = some (J (wdT T (rwT T e w j))) := by rw [show j + 1 - 1 = j by omega]; exact G.wordAt hpj
        refine ⟨(J (j + 1 + 1), wE h' (o + 13) (21 * i + (j + 1)) (lcT T d v e w i (j + 1))), ⟨_, rfl, F.trans (FR.wE rfl), fun a b a0 a1 b0 b1 => ?_⟩, ?_⟩
        · rw [hE_wE (by omega) (by omega) (by omega) (by omega)]
          by_cases z : 21 * a + b = 21 * i + (j + 1)
          · have za : a = i := by omega
            have zb : b = j + 1 := by omega
            rw [if_pos ⟨rfl, z⟩, if_pos (by omega), za, zb]
          · rw [if_neg (fun y => z y.2), q a b a0 a1 b0 b1]
            by_cases z2 : a < i ∨ (a = i ∧ b ≤ j)
            · rw [if_pos z2, if_pos (by omega)]
            · rw [if_neg z2, if_neg (by omega)]
        · show b_X12_common_91 o (J d) (J v) (J e) (J w) (J n) (J m) (J i) K (fun v9q hq => K1 (v9q, hq)) (J (j + 1)) h' = _
          have lcs := lc_succ (T := T) (d := d) (v := v) (e := e) (w := w) (i := i - 1) (by omega) j0
          rw [show i - 1 + 1 = i by omega] at lcs
          by_cases hc : wdT T (rwT T d v (i - 1)) = wdT T (rwT T e w j)
          · rw [if_pos hc] at lcs
            rw [lcs]
            simp (disch := first | omega | exact hc) only [b_X12_common_91, j_X12_common_128, j_X12_common_206, rc_ok G.tag, G.wordAt hpp, es, G.1.r27, c1, c2, c3, X12_greater_ok, asI_ok G.1.a27, lm8, lm2, lm1, l0, l1, l2, l3, l4, l5, l6, l7, l8, l9, l10, l11, l12, l13, l14, l15, l16, l17, l18, l19, l20, l21, l22, l23, l24, l25, l27, l31, l32, l40, l46, l48, l50, l57, l59, l63, l86, l96, l97, l100, l110, l114, l122, l127, l200, l255, l300, l319, l320, l340, l441, l456, l580, l600, l800, l886, l1206, l1526, J_add, J_sub, J_mul, J_neg, J_lt, J_le, J_eq, jT, jF, iT, iF, eT, eF, aT, aF, ite_true, ite_false, ite_not, bs]
          · rw [if_neg hc] at lcs
            rw [lcs]
            simp (disch := omega) only [b_X12_common_91, j_X12_common_128, j_X12_common_206, rc_ok G.tag, G.wordAt hpp, es, G.1.r27, c1, c2, X12_greater_ok, asI_ok G.1.a27, lm8, lm2, lm1, l0, l1, l2, l3, l4, l5, l6, l7, l8, l9, l10, l11, l12, l13, l14, l15, l16, l17, l18, l19, l20, l21, l22, l23, l24, l25, l27, l31, l32, l40, l46, l48, l50, l57, l59, l63, l86, l96, l97, l100, l110, l114, l122, l127, l200, l255, l300, l319, l320, l340, l441, l456, l580, l600, l800, l886, l1206, l1526, J_add, J_sub, J_mul, J_neg, J_lt, J_le, J_eq, jT, jF, iT, iF, eT, eF, aT, aF, ite_true, ite_false, ite_not, bs]) (by
        rintro K1 s ⟨h', rfl, -⟩
        show b_X12_common_91 o (J d) (J v) (J e) (J w) (J n) (J m) (J i) K (fun v9q hq => K1 (v9q, hq)) (J (m + 1)) h' = _
        simp (disch := omega) only [b_X12_common_91, lm8, lm2, lm1, l0, l1, l2, l3, l4, l5, l6, l7, l8, l9, l10, l11, l12, l13, l14, l15, l16, l17, l18, l19, l20, l21, l22, l23, l24, l25, l27, l31, l32, l40, l46, l48, l50, l57, l59, l63, l86, l96, l97, l100, l110, l114, l122, l127, l200, l255, l300, l319, l320, l340, l441, l456, l580, l600, l800, l886, l1206, l1526, J_add, J_sub, J_mul, J_neg, J_lt, J_le, J_eq, jT, jF, iT, iF, eT, eF, aT, aF, ite_true, ite_false, ite_not, bs])
    refine ⟨h2, e2, F2, fun a b a0 a1 b0 b1 => ?_⟩
    rw [q2 a b a0 a1 b0 b1]
    by_cases z : a < i + 1
    · rw [if_pos z, if_pos (by omega)]
    · rw [if_neg z, if_neg (by omega)]
  obtain ⟨s, ⟨h3, rfl, F3, p3⟩, e3⟩ := loop_ex (body := fun (k : Int32 × Hp → Option (Int32 × Hp)) (s : Int32 × Hp) => b_X12_common_81 o (J d) (J v) (J e) (J w) (J n) (J m) (fun hz3 => j_X12_common_219 o (J n) (J m) hz3) (fun v8q hq => k (v8q, hq)) s.1 s.2) (s := (J 1, h1)) (fun i s => ∃ h', s = (J (i + 1), h') ∧ FR (AC2 o) h h' ∧ ∀ a b, 0 ≤ a → a ≤ 20 → 0 ≤ b → b ≤ m → hE h' (o + 13) (21 * a + b) = if a < i + 1 then lcT T d v e w a b else 0) (fun s => j_X12_common_219 o (J n) (J m) s.2) n hl.1 (by omega) ⟨h1, rfl, F1, fun a b a0 a1 b0 b1 => by
      rw [p1 _ (by omega) (by omega)]
      by_cases z : a < 0 + 1
      · rw [if_pos z, lc_0i (by omega)]
      · rw [if_neg z]⟩ (by
      rintro K i s i0 i1 ⟨h', rfl, F, p⟩
      obtain ⟨h2, e2, F2, q2⟩ := inner (i + 1) (fun hz1 => j_X12_common_213 o (J d) (J v) (J e) (J w) (J n) (J m) (J (i + 1)) hz1 (fun hz3 => j_X12_common_219 o (J n) (J m) hz3) (fun v8q hq => K (v8q, hq))) h' (by omega) (by omega) F p
      refine ⟨(J (i + 1 + 1), h2), ⟨h2, rfl, F2, q2⟩, ?_⟩
      show b_X12_common_81 o (J d) (J v) (J e) (J w) (J n) (J m) _ (fun v8q hq => K (v8q, hq)) (J (i + 1)) h' = _
      simp (disch := omega) only [b_X12_common_81, lm8, lm2, lm1, l0, l1, l2, l3, l4, l5, l6, l7, l8, l9, l10, l11, l12, l13, l14, l15, l16, l17, l18, l19, l20, l21, l22, l23, l24, l25, l27, l31, l32, l40, l46, l48, l50, l57, l59, l63, l86, l96, l97, l100, l110, l114, l122, l127, l200, l255, l300, l319, l320, l340, l441, l456, l580, l600, l800, l886, l1206, l1526, J_add, J_sub, J_mul, J_neg, J_lt, J_le, J_eq, jT, jF, iT, iF, eT, eF, aT, aF, ite_true, ite_false, ite_not, bs]
      refine e2.trans ?_
      simp only [j_X12_common_213, lm8, lm2, lm1, l0, l1, l2, l3, l4, l5, l6, l7, l8, l9, l10, l11, l12, l13, l14, l15, l16, l17, l18, l19, l20, l21, l22, l23, l24, l25, l27, l31, l32, l40, l46, l48, l50, l57, l59, l63, l86, l96, l97, l100, l110, l114, l122, l127, l200, l255, l300, l319, l320, l340, l441, l456, l580, l600, l800, l886, l1206, l1526, J_add, J_sub, J_mul, J_neg, J_lt, J_le, J_eq, jT, jF, iT, iF, eT, eF, aT, aF, ite_true, ite_false, ite_not, bs]) (by
      rintro K s ⟨h', rfl, -⟩
      show b_X12_common_81 o (J d) (J v) (J e) (J w) (J n) (J m) _ (fun v8q hq => K (v8q, hq)) (J (n + 1)) h' = _
      simp (disch := omega) only [b_X12_common_81, lm8, lm2, lm1, l0, l1, l2, l3, l4, l5, l6, l7, l8, l9, l10, l11, l12, l13, l14, l15, l16, l17, l18, l19, l20, l21, l22, l23, l24, l25, l27, l31, l32, l40, l46, l48, l50, l57, l59, l63, l86, l96, l97, l100, l110, l114, l122, l127, l200, l255, l300, l319, l320, l340, l441, l456, l580, l600, l800, l886, l1206, l1526, J_add, J_sub, J_mul, J_neg, J_lt, J_le, J_eq, jT, jF, iT, iF, eT, eF, aT, aF, ite_true, ite_false, ite_not, bs])
  have G3 := H.frC F3
  refine ⟨h3, ?_, F3⟩
  unfold l_X12_common_38
  refine e1.trans ?_
  show j_X12_common_60 o (J d) (J v) (J e) (J w) h1 = _
  have ln1 : m_X12_longOf o (J d) (J v) h1 = some (J n) := by rw [G1.longOf (by omega) (by omega), hnd]
  have ln2 : m_X12_longOf o (J e) (J w) h1 = some (J m) := by rw [G1.longOf (by omega) (by omega), hmd]
  simp only [j_X12_common_60, rc_ok G1.tag, ln1, ln2, lm8, lm2, lm1, l0, l1, l2, l3, l4, l5, l6, l7, l8, l9, l10, l11, l12, l13, l14, l15, l16, l17, l18, l19, l20, l21, l22, l23, l24, l25, l27, l31, l32, l40, l46, l48, l50, l57, l59, l63, l86, l96, l97, l100, l110, l114, l122, l127, l200, l255, l300, l319, l320, l340, l441, l456, l580, l600, l800, l886, l1206, l1526, J_add, J_sub, J_mul, J_neg, J_lt, J_le, J_eq, jT, jF, iT, iF, eT, eF, aT, aF, ite_true, ite_false, ite_not, bs]
  refine Eq.trans ?_ (e3.trans ?_)
  · rfl
  · have ef : alI h3 (o + 13) (J (21 * n + m)) = some (J (lcT T d v e w n m)) := by
      rw [alI_ok G3.1.a27 (by omega) (by omega) (by omega), p3 n m hl.1 hl.2 hm.1 (Int.le_refl _), if_pos (by omega)]
    simp only [j_X12_common_219, G3.1.r27, ef, lm8, lm2, lm1, l0, l1, l2, l3, l4, l5, l6, l7, l8, l9, l10, l11, l12, l13, l14, l15, l16, l17, l18, l19, l20, l21, l22, l23, l24, l25, l27, l31, l32, l40, l46, l48, l50, l57, l59, l63, l86, l96, l97, l100, l110, l114, l122, l127, l200, l255, l300, l319, l320, l340, l441, l456, l580, l600, l800, l886, l1206, l1526, J_add, J_sub, J_mul, J_neg, J_lt, J_le, J_eq, jT, jF, iT, iF, eT, eF, aT, aF, ite_true, ite_false, ite_not, bs]
end CO
