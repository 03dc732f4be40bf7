/-! PURE PART: the class builds a further version -/
/-- the class's archive at o shows T, but that document d (a further one where z is 1) and m tokens more are begun -/
def CBp (h : Hp) (o : Nat) (T : Int → Int) (z d m : Int) (ws : Int → Int) : Prop := TA (top h) o ∧ AW T ∧ ((z = 0 ∧ 0 ≤ d ∧ d < T 0) ∨ (z = 1 ∧ d = T 0 ∧ T 0 < 4)) ∧ MG T d m 0 ∧ hE h o 0 = T 0 + z ∧ hE h o 1 = T 5 + m ∧ (∀ e, 0 ≤ e → e < 4 → hE h (o + 1) e = T (1 + e)) ∧ (∀ e v, vvT T e v → hE h (o + 3) (e * 10 + v) = lnT T e v) ∧ (∀ e v q, ppT T e v q → hE h (o + 4) ((e * 10 + v) * 20 + q) = rwT T e v q) ∧ (∀ t, 0 ≤ t → t < T 5 → hE h (o + 5) t = wide (wdT T t) ∧ hE h (o + 6) t = owT T t ∧ hE h (o + 7) t = stT T t) ∧ ∀ i, 0 ≤ i → i < m → hE h (o + 5) (T 5 + i) = wide (ws i) ∧ hE h (o + 6) (T 5 + i) = d ∧ hE h (o + 7) (T 5 + i) = 0
/-- the slot that comes, as the class numbers it -/
def slC (T : Int → Int) (d : Int) : Int := d * 10 + T (1 + d)
def CB (h : Hp) (o : Nat) (T : Int → Int) (z d m : Int) (ws : Int → Int) (n : Int) (r : Int → Int) : Prop := CBp h o T z d m ws ∧ (0 ≤ n ∧ n ≤ 20) ∧ hE h (o + 3) (slC T d) = n ∧ ∀ q, 0 ≤ q → q < n → hE h (o + 4) (slC T d * 20 + q) = r q
def ASl (o : Nat) (s : Int) (b k : Nat) : Prop := (b = o + 3 ∧ (k : Int) = s) ∨ (b = o + 4 ∧ s * 20 ≤ k ∧ (k : Int) < s * 20 + 20)
def ABd (o : Nat) (s : Int) (b k : Nat) : Prop := (b = o ∧ (k = 0 ∨ k = 1)) ∨ b = o + 1 ∨ (b = o + 2 ∧ (k : Int) = s) ∨ b = o + 3 ∨ b = o + 4 ∨ b = o + 5 ∨ b = o + 6 ∨ b = o + 7
section BU
variable {h : Hp} {o : Nat} {T : Int → Int} {z d m n : Int} {ws r : Int → Int}
theorem CBp.tag (B : CBp h o T z d m ws) : hTag h o = 1 := B.1.1
theorem CBp.slot (B : CBp h o T z d m ws) : 0 ≤ slC T d ∧ slC T d < 40 := by
  obtain ⟨⟨g1, g2⟩, ⟨g3, g4⟩, -⟩ := B.2.2.2.1
  unfold slC
  omega
theorem CBp.apart (B : CBp h o T z d m ws) {e v : Int} (hv : vvT T e v) : e * 10 + v ≠ slC T d := by
  have hb := B.2.1.vb hv
  have h3 := hv.2.2.2
  obtain ⟨⟨g1, g2⟩, ⟨g3, g4⟩, -⟩ := B.2.2.2.1
  unfold slC
  intro q
  have he : e = d := by omega
  rw [he] at h3
  omega
theorem CBp.frame {A : Nat → Nat → Prop} {h' : Hp} (B : CBp h o T z d m ws) (F : FR A h h') (s : ∀ b k, A b k → ASl o (slC T d) b k) : CBp h' o T z d m ws := by
  have hs := B.slot
  have hap := fun e v (hv : vvT T e v) => B.apart hv
  obtain ⟨b1, b2, b3, b4, b5, b6, b7, b8, b9, b10, b11⟩ := B
  have n0 : ∀ b k, b < o + 3 ∨ o + 4 < b → ¬ A b k := fun b k hb q => by
    rcases s b k q with ⟨y, _⟩ | ⟨y, _⟩ <;> omega
  refine ⟨by rw [F.1]; exact b1, b2, b3, b4, ?_, ?_, fun e e0 e1 => ?_, fun e v hv => ?_, fun e v q hp => ?_, fun t t0 t1 => ?_, fun i i0 i1 => ?_⟩
  · rw [F.e (n0 _ _ (by omega)), b5]
  · rw [F.e (n0 _ _ (by omega)), b6]
  · rw [F.e (n0 _ _ (by omega)), b7 e e0 e1]
  · have hb := b2.vb hv
    have ha := hap e v hv
    rw [F.e (fun q => by rcases s _ _ q with ⟨_, y⟩ | ⟨y, _⟩ <;> omega), b8 e v hv]
  · have hb := b2.vb hp.1
    have ha := hap e v hp.1
    have hl := b2.ln hp.1
    have hq := hp.2
    rw [F.e (fun q => by rcases s _ _ q with ⟨y, _⟩ | ⟨_, y⟩ <;> omega), b9 e v q hp]
  · rw [F.e (n0 _ _ (by omega)), F.e (n0 _ _ (by omega)), F.e (n0 _ _ (by omega))]
    exact b10 t t0 t1
  · rw [F.e (n0 _ _ (by omega)), F.e (n0 _ _ (by omega)), F.e (n0 _ _ (by omega))]
    exact b11 i i0 i1
theorem CA.pre (H : CA h o T) {d : Int} (d0 : 0 ≤ d) (d1 : d < T 0) (hv : T (1 + d) ≤ 9) (ws : Int → Int) : CBp h o T 0 d 0 ws := by
  have h0 := H.wf.n0
  have h5 := H.wf.n5
  have hn := H.wf.nv d0 (by omega)
  obtain ⟨c1, c2, c3, c4, c5, c6, c7, c8⟩ := H
  exact ⟨c1, c2, Or.inl ⟨rfl, d0, d1⟩, ⟨⟨d0, by omega⟩, ⟨hn.1, hv⟩, h5.1, ⟨Int.le_refl 0, by omega⟩, Int.le_refl 0, by omega⟩, by rw [c3, Int.add_zero], by rw [c4, Int.add_zero], c5, c6, c7, c8, fun i i0 i1 => by omega⟩
theorem sub_Sl {s : Int} {b k : Nat} (q : ASl o s b k) : ABd o s b k := by
  rcases q with ⟨y, _⟩ | ⟨y, _⟩
  · exact Or.inr (Or.inr (Or.inr (Or.inl y)))
  · exact Or.inr (Or.inr (Or.inr (Or.inr (Or.inl y))))
theorem CBp.versionsOf (B : CBp h o T z d m ws) : m_X0_versionsOf o (J d) h = some (J (T (1 + d))) := by
  obtain ⟨⟨g1, g2⟩, -⟩ := B.2.2.2.1
  rw [X0_versionsOf_at B.1 (by omega) (by omega), atE_in g1 (by omega), B.2.2.2.2.2.2.1 d g1 g2]
/-- laid out as an earlier version, or without words -/
theorem CBp.open_ (B : CBp h o T z d m ws) {e : Int} (he : e = -1 ∨ (z = 0 ∧ 0 ≤ e ∧ e < T (1 + d))) : ∃ h', m_X0_open o (J d) (J e) h = some (J (slC T d), h') ∧ FR (ASl o (slC T d)) h h' ∧ CB h' o T z d m ws (if e = -1 then 0 else lnT T d e) (fun q => rwT T d e q) := by
  have hs := B.slot
  have G := B.2.2.2.1
  obtain ⟨⟨g1, g2⟩, ⟨g3, g4⟩, g5, ⟨g6, g7⟩, -⟩ := G
  have hev : e = -1 ∨ vvT T d e := by
    rcases he with he | he
    · exact Or.inl he
    · refine Or.inr ⟨g1, ?_, he.2.1, he.2.2⟩
      rcases B.2.2.1 with k | k <;> omega
  have hl : 0 ≤ (if e = -1 then 0 else lnT T d e) ∧ (if e = -1 then 0 else lnT T d e) ≤ 20 := by
    by_cases hc : e = -1
    · rw [if_pos hc]
      omega
    · rw [if_neg hc]
      rcases hev with y | y
      · exact absurd y hc
      · exact B.2.1.ln y
  have core : ∃ h', j_X0_open_25 o (J d) (J e) (J (slC T d)) (J (if e = -1 then 0 else lnT T d e)) h = some (J (slC T d), h') ∧ FR (ASl o (slC T d)) h h' ∧ CB h' o T z d m ws (if e = -1 then 0 else lnT T d e) (fun q => rwT T d e q) := by
    generalize hnd : (if e = -1 then 0 else lnT T d e) = n at *
    unfold j_X0_open_25 l_X0_open_30
    obtain ⟨s, ⟨h1, rfl, F1, p1⟩, e1⟩ := loop_ex (body := fun (k : Int32 × Hp → Option (Int32 × Hp)) (s : Int32 × Hp) => b_X0_open_30 o (J d) (J e) (J (slC T d)) (J n) (fun hz1 => j_X0_open_65 o (J (slC T d)) (J n) hz1) (fun v5q hq => k (v5q, hq)) s.1 s.2) (s := (J 0, h)) (fun i s => ∃ h', s = (J i, h') ∧ FR (ASl o (slC T d)) h h' ∧ ∀ q, 0 ≤ q → q < i → hE h' (o + 4) (slC T d * 20 + q) = rwT T d e q) (fun s => j_X0_open_65 o (J (slC T d)) (J n) s.2) n hl.1 (by omega) ⟨h, rfl, FR.refl _ _, fun q _ _ => by omega⟩ (by
        rintro K i s i0 i1 ⟨h', rfl, F, p⟩
        have B' := B.frame F (fun _ _ q => q)
        have hne : e ≠ -1 := fun q => by rw [if_pos q] at hnd; omega
        have hvv : vvT T d e := by
          rcases hev with y | y
          · exact absurd y hne
          · exact y
        have hb := B.2.1.vb hvv
        rw [if_neg hne] at hnd
        have hp : ppT T d e i := ⟨hvv, i0, by omega⟩
        have hr := B.2.1.rw hp
        have h5 := B.2.1.n5
        have et : m_X0_tokenAt o (J d) (J e) (J i) h' = some (J (rwT T d e i)) := by
          rw [X0_tokenAt_at B'.1 (by omega) (by omega), atE_in (by omega) (by omega), B'.2.2.2.2.2.2.2.2.1 d e i hp]
        refine ⟨(J (i + 1), wE h' (o + 4) (slC T d * 20 + i) (rwT T d e i)), ⟨_, rfl, F.trans (FR.wE (Or.inr ⟨rfl, by omega, by omega⟩)), fun q q0 q1 => ?_⟩, ?_⟩
        · rw [hE_wE (by omega) (by omega) (by omega) (by omega)]
          by_cases y : q = i
          · rw [if_pos ⟨rfl, by rw [y]⟩, y]
          · rw [if_neg (by omega)]
            exact p q q0 (by omega)
        · show b_X0_open_30 o (J d) (J e) (J (slC T d)) (J n) _ (fun v5q hq => K (v5q, hq)) (J i) h' = _
          simp (disch := omega) only [b_X0_open_30, B'.1.r6, rc_ok B'.tag, et, X5_set_ok B'.1.a6, lm8, lm2, lm1, l0, l1, l2, l3, l4, l5, l6, l7, l8, l9, l10, l11, l12, l13, l14, l15, l16, l17, l18, l19, l20, l21, l22, l23, l24, l25, l27, l31, l32, l40, l46, l48, l50, l57, l59, l63, l86, l96, l97, l100, l110, l114, l122, l127, l200, l255, l300, l319, l320, l340, l441, l456, l580, l600, l800, l886, l1206, l1526, J_add, J_sub, J_mul, J_neg, J_lt, J_le, J_eq, jT, jF, iT, iF, eT, eF, aT, aF, ite_true, ite_false, ite_not, bs]) (by
        rintro K s ⟨h', rfl, -⟩
        show b_X0_open_30 o (J d) (J e) (J (slC T d)) (J n) _ (fun v5q hq => K (v5q, hq)) (J n) h' = _
        simp (disch := omega) only [b_X0_open_30, lm8, lm2, lm1, l0, l1, l2, l3, l4, l5, l6, l7, l8, l9, l10, l11, l12, l13, l14, l15, l16, l17, l18, l19, l20, l21, l22, l23, l24, l25, l27, l31, l32, l40, l46, l48, l50, l57, l59, l63, l86, l96, l97, l100, l110, l114, l122, l127, l200, l255, l300, l319, l320, l340, l441, l456, l580, l600, l800, l886, l1206, l1526, J_add, J_sub, J_mul, J_neg, J_lt, J_le, J_eq, jT, jF, iT, iF, eT, eF, aT, aF, ite_true, ite_false, ite_not, bs])
    have B1 := B.frame F1 (fun _ _ q => q)
    have F2 : FR (ASl o (slC T d)) h (wE h1 (o + 3) (slC T d) n) := F1.trans (FR.wE (Or.inl ⟨rfl, by omega⟩))
    refine ⟨wE h1 (o + 3) (slC T d) n, ?_, F2, B.frame F2 (fun _ _ q => q), hl, ?_, fun q q0 q1 => ?_⟩
    · refine e1.trans ?_
      show j_X0_open_65 o (J (slC T d)) (J n) h1 = _
      simp (disch := omega) only [j_X0_open_65, B1.1.r5, X5_set_ok B1.1.a5, lm8, lm2, lm1, l0, l1, l2, l3, l4, l5, l6, l7, l8, l9, l10, l11, l12, l13, l14, l15, l16, l17, l18, l19, l20, l21, l22, l23, l24, l25, l27, l31, l32, l40, l46, l48, l50, l57, l59, l63, l86, l96, l97, l100, l110, l114, l122, l127, l200, l255, l300, l319, l320, l340, l441, l456, l580, l600, l800, l886, l1206, l1526, J_add, J_sub, J_mul, J_neg, J_lt, J_le, J_eq, jT, jF, iT, iF, eT, eF, aT, aF, ite_true, ite_false, ite_not, bs]
    · rw [hE_wE (by omega) (by omega) (by omega) (by omega), if_pos ⟨rfl, rfl⟩]
    · rw [hE_wE_ne (by omega)]
      exact p1 q q0 q1
  obtain ⟨h', e1, e2, e3⟩ := core
  refine ⟨h', ?_, e2, e3⟩
  have esl : m_X0_slotOf (J d) (J (T (1 + d))) h = some (J (slC T d)) := X0_slotOf_ok
  by_cases hc : e = -1
  · rw [if_pos hc] at e1
    rw [hc] at e1 ⊢
    simp (disch := omega) only [m_X0_open, rc_ok B.tag, B.versionsOf, esl, lm8, lm2, lm1, l0, l1, l2, l3, l4, l5, l6, l7, l8, l9, l10, l11, l12, l13, l14, l15, l16, l17, l18, l19, l20, l21, l22, l23, l24, l25, l27, l31, l32, l40, l46, l48, l50, l57, l59, l63, l86, l96, l97, l100, l110, l114, l122, l127, l200, l255, l300, l319, l320, l340, l441, l456, l580, l600, l800, l886, l1206, l1526, J_add, J_sub, J_mul, J_neg, J_lt, J_le, J_eq, jT, jF, iT, iF, eT, eF, aT, aF, ite_true, ite_false, ite_not, bs]
    exact e1
  · rw [if_neg hc] at e1
    rcases hev with y | y
    · exact absurd y hc
    · have hb := B.2.1.vb y
      have el : m_X0_lengthOf o (J d) (J e) h = some (J (lnT T d e)) := by
        rw [X0_lengthOf_at B.1 (by omega) (by omega), atE_in (by omega) (by omega), B.2.2.2.2.2.2.2.1 d e y]
      simp (disch := omega) only [m_X0_open, rc_ok B.tag, B.versionsOf, esl, el, lm8, lm2, lm1, l0, l1, l2, l3, l4, l5, l6, l7, l8, l9, l10, l11, l12, l13, l14, l15, l16, l17, l18, l19, l20, l21, l22, l23, l24, l25, l27, l31, l32, l40, l46, l48, l50, l57, l59, l63, l86, l96, l97, l100, l110, l114, l122, l127, l200, l255, l300, l319, l320, l340, l441, l456, l580, l600, l800, l886, l1206, l1526, J_add, J_sub, J_mul, J_neg, J_lt, J_le, J_eq, jT, jF, iT, iF, eT, eF, aT, aF, ite_true, ite_false, ite_not, bs]
      exact e1
theorem CB.newToken (B : CB h o T z d m ws n r) (hm : T 5 + m < 319) (hw : wrg (ws m)) : ∃ h', m_X0_newToken o (J d) (J (wide (ws m))) h = some (J (T 5 + m), h') ∧ FR (ABd o (slC T d)) h h' ∧ CB h' o T z d (m + 1) ws n r := by
  obtain ⟨Bp, hn, hl, hr⟩ := B
  have hs := Bp.slot
  obtain ⟨b1, b2, b3, b4, b5, b6, b7, b8, b9, b10, b11⟩ := Bp
  obtain ⟨⟨g1, g2⟩, ⟨g3, g4⟩, g5, ⟨g6, g7⟩, -⟩ := b4
  have hwr := wide_rg hw.1 hw.2.1
  have e1 : gfI h o 1 1 = some (J (T 5 + m)) := by rw [b1.f1, b6]
  generalize hg1 : wE h (o + 5) (T 5 + m) (wide (ws m)) = h1
  have t1 : TA (top h1) o := by rw [← hg1]; exact b1
  generalize hg2 : wE h1 (o + 6) (T 5 + m) d = h2
  have t2 : TA (top h2) o := by rw [← hg2]; exact t1
  generalize hg3 : wE h2 (o + 7) (T 5 + m) 0 = h3
  have t3 : TA (top h3) o := by rw [← hg3]; exact t2
  have e3 : gfI h3 o 1 1 = some (J (T 5 + m)) := by rw [t3.f1, ← hg3, hE_wE_ne (by omega), ← hg2, hE_wE_ne (by omega), ← hg1, hE_wE_ne (by omega), b6]
  have e4 : ∀ y : Int, pfI h3 o 1 1 (J y) = some (wE h3 o 1 y) := fun y => pfI_ok t3.tag
  have F : FR (ABd o (slC T d)) h (wE h3 o 1 (T 5 + m + 1)) := by
    refine FR.trans (h' := h3) ?_ (FR.wE (Or.inl ⟨rfl, Or.inr rfl⟩))
    rw [← hg3, ← hg2, ← hg1]
    exact (FR.wE (by unfold ABd; omega)).trans ((FR.wE (by unfold ABd; omega)).trans (FR.wE (by unfold ABd; omega)))
  have cell : ∀ (b : Nat) (i : Int), 0 ≤ i → hE (wE h3 o 1 (T 5 + m + 1)) b i = if b = o ∧ i = 1 then T 5 + m + 1 else if b = o + 7 ∧ i = T 5 + m then 0 else if b = o + 6 ∧ i = T 5 + m then d else if b = o + 5 ∧ i = T 5 + m then wide (ws m) else hE h b i := by
    intro b i i0
    rw [hE_wE (by omega) i0 (by omega) (by omega), ← hg3, hE_wE (by omega) i0 (by omega) (by omega), ← hg2, hE_wE (by omega) i0 (by omega) (by omega), ← hg1, hE_wE (by omega) i0 (by omega) (by omega)]
  refine ⟨wE h3 o 1 (T 5 + m + 1), ?_, F, ⟨⟨t3, b2, b3, ⟨⟨g1, g2⟩, ⟨g3, g4⟩, g5, ⟨by omega, by omega⟩, Int.le_refl 0, by omega⟩, ?_, ?_, fun e e0 e1 => ?_, fun e v hv => ?_, fun e v q hp => ?_, fun t t0 t1 => ⟨?_, ?_, ?_⟩, fun i i0 i1 => ⟨?_, ?_, ?_⟩⟩, hn, ?_, fun q q0 q1 => ?_⟩⟩
  · simp (disch := omega) only [m_X0_newToken, e1, b1.r7, X5_set_ok b1.a7, hg1, t1.r8, X5_set_ok t1.a8, hg2, t2.r9, X5_set_ok t2.a9, hg3, e3, e4, lm8, lm2, lm1, l0, l1, l2, l3, l4, l5, l6, l7, l8, l9, l10, l11, l12, l13, l14, l15, l16, l17, l18, l19, l20, l21, l22, l23, l24, l25, l27, l31, l32, l40, l46, l48, l50, l57, l59, l63, l86, l96, l97, l100, l110, l114, l122, l127, l200, l255, l300, l319, l320, l340, l441, l456, l580, l600, l800, l886, l1206, l1526, J_add, J_sub, J_mul, J_neg, J_lt, J_le, J_eq, jT, jF, iT, iF, eT, eF, aT, aF, ite_true, ite_false, ite_not, bs]
  · rw [cell _ _ (by omega), if_neg (by omega), if_neg (by omega), if_neg (by omega), if_neg (by omega), b5]
  · rw [cell _ _ (by omega), if_pos ⟨rfl, rfl⟩]
    omega
  · rw [cell _ _ (by omega), if_neg (by omega), if_neg (by omega), if_neg (by omega), if_neg (by omega), b7 e e0 e1]
  · have hb := b2.vb hv
    rw [cell _ _ (by omega), if_neg (by omega), if_neg (by omega), if_neg (by omega), if_neg (by omega), b8 e v hv]
  · have hb := b2.vb hp.1
    have hq := hp.2
    rw [cell _ _ (by omega), if_neg (by omega), if_neg (by omega), if_neg (by omega), if_neg (by omega), b9 e v q hp]
  · rw [cell _ _ (by omega), if_neg (by omega), if_neg (by omega), if_neg (by omega), if_neg (by omega), (b10 t t0 t1).1]
  · rw [cell _ _ (by omega), if_neg (by omega), if_neg (by omega), if_neg (by omega), if_neg (by omega), (b10 t t0 t1).2.1]
  · rw [cell _ _ (by omega), if_neg (by omega), if_neg (by omega), if_neg (by omega), if_neg (by omega), (b10 t t0 t1).2.2]
  · rw [cell _ _ (by omega), if_neg (by omega), if_neg (by omega), if_neg (by omega)]
    by_cases y : i = m
    · rw [if_pos ⟨rfl, by omega⟩, y]
    · rw [if_neg (by omega)]
      exact (b11 i i0 (by omega)).1
  · rw [cell _ _ (by omega), if_neg (by omega), if_neg (by omega)]
    by_cases y : i = m
    · rw [if_pos ⟨rfl, by omega⟩]
    · rw [if_neg (by omega), if_neg (by omega)]
      exact (b11 i i0 (by omega)).2.1
  · rw [cell _ _ (by omega), if_neg (by omega)]
    by_cases y : i = m
    · rw [if_pos ⟨rfl, by omega⟩]
    · rw [if_neg (by omega), if_neg (by omega), if_neg (by omega)]
      exact (b11 i i0 (by omega)).2.2
  · rw [cell _ _ (by omega), if_neg (by omega), if_neg (by omega), if_neg (by omega), if_neg (by omega), hl]
  · rw [cell _ _ (by omega), if_neg (by omega), if_neg (by omega), if_neg (by omega), if_neg (by omega), hr q q0 q1]
theorem CB.len (B : CB h o T z d m ws n r) : m_X5_at (o + 3) (J (slC T d)) h = some (J n) := by
  have hs := B.1.slot
  rw [X5_at_ok B.1.1.a5 (by omega) (by omega) (by omega), atE_in (by omega) (by omega), B.2.2.1]
theorem CB.insert (B : CB h o T z d m ws n r) {p x : Int} (p0 : 0 ≤ p) (p1 : p ≤ n) (hn : n < 20) (x0 : 0 ≤ x) (x1 : x < 320) : ∃ h', m_X0_insert o (J (slC T d)) (J p) (J x) h = some h' ∧ FR (ASl o (slC T d)) h h' ∧ CB h' o T z d m ws (n + 1) (shW p x r) := by
  have hs := B.1.slot
  have hnn := B.2.1
  have hl := B.len
  have hr := B.2.2.2
  obtain ⟨s, ⟨h1, rfl, F1, q1⟩, e1⟩ := loop_ex (body := fun (k : Int32 × Hp → Option Hp) (s : Int32 × Hp) => b_X0_insert_32 o (J (slC T d)) (J p) (J x) (J n) (fun hz3 => j_X0_insert_74 o (J (slC T d)) (J p) (J x) (J n) hz3) (fun v5q hq => k (v5q, hq)) s.1 s.2) (s := (J n, h)) (fun j s => ∃ h', s = (J (n - j), h') ∧ FR (ASl o (slC T d)) h h' ∧ ∀ i, 0 ≤ i → i ≤ n → hE h' (o + 4) (slC T d * 20 + i) = if n - j < i then hE h (o + 4) (slC T d * 20 + (i - 1)) else hE h (o + 4) (slC T d * 20 + i)) (fun s => j_X0_insert_74 o (J (slC T d)) (J p) (J x) (J n) s.2) (n - p) (by omega) (by omega) ⟨h, by rw [show n - 0 = n by omega], FR.refl _ _, fun i _ _ => (if_neg (by omega)).symm⟩ (by
      rintro K j s j0 j1 ⟨h', rfl, F, q⟩
      have B' := B.1.frame F (fun _ _ q => q)
      have ea : m_X5_at (o + 4) (J (slC T d * 20 + (n - j) - 1)) h' = some (J (hE h' (o + 4) (slC T d * 20 + (n - j) - 1))) := by
        rw [X5_at_ok B'.1.a6 (by omega) (by omega) (by omega), atE_in (by omega) (by omega)]
      refine ⟨(J (n - (j + 1)), wE h' (o + 4) (slC T d * 20 + (n - j)) (hE h' (o + 4) (slC T d * 20 + (n - j) - 1))), ⟨_, rfl, F.trans (FR.wE (Or.inr ⟨rfl, by omega, by omega⟩)), fun i i0 i1 => ?_⟩, ?_⟩
      · rw [hE_wE (by omega) (by omega) (hE_rg _ _ _).1 (hE_rg _ _ _).2]
        by_cases y : i = n - j
        · have := q (n - j - 1) (by omega) (by omega)
          rw [show slC T d * 20 + (n - j - 1) = slC T d * 20 + (n - j) - 1 by omega, if_neg (by omega)] at this
          rw [if_pos ⟨rfl, by rw [y]⟩, if_pos (by omega), this, y, show slC T d * 20 + (n - j) - 1 = slC T d * 20 + (n - j - 1) by omega]
        · rw [if_neg (by omega), q i i0 i1]
          by_cases y2 : n - j < i
          · rw [if_pos y2, if_pos (by omega)]
          · rw [if_neg y2, if_neg (by omega)]
      · rw [show n - (j + 1) = n - j + -1 by omega]
        show b_X0_insert_32 o (J (slC T d)) (J p) (J x) (J n) _ (fun v5q hq => K (v5q, hq)) (J (n - j)) h' = _
        simp (disch := omega) only [b_X0_insert_32, B'.1.r6, ea, X5_set_ok B'.1.a6, lm8, lm2, lm1, l0, l1, l2, l3, l4, l5, l6, l7, l8, l9, l10, l11, l12, l13, l14, l15, l16, l17, l18, l19, l20, l21, l22, l23, l24, l25, l27, l31, l32, l40, l46, l48, l50, l57, l59, l63, l86, l96, l97, l100, l110, l114, l122, l127, l200, l255, l300, l319, l320, l340, l441, l456, l580, l600, l800, l886, l1206, l1526, J_add, J_sub, J_mul, J_neg, J_lt, J_le, J_eq, jT, jF, iT, iF, eT, eF, aT, aF, ite_true, ite_false, ite_not, bs]) (by
      rintro K s ⟨h', rfl, -⟩
      show b_X0_insert_32 o (J (slC T d)) (J p) (J x) (J n) _ (fun v5q hq => K (v5q, hq)) (J (n - (n - p))) h' = _
      simp (disch := omega) only [b_X0_insert_32, lm8, lm2, lm1, l0, l1, l2, l3, l4, l5, l6, l7, l8, l9, l10, l11, l12, l13, l14, l15, l16, l17, l18, l19, l20, l21, l22, l23, l24, l25, l27, l31, l32, l40, l46, l48, l50, l57, l59, l63, l86, l96, l97, l100, l110, l114, l122, l127, l200, l255, l300, l319, l320, l340, l441, l456, l580, l600, l800, l886, l1206, l1526, J_add, J_sub, J_mul, J_neg, J_lt, J_le, J_eq, jT, jF, iT, iF, eT, eF, aT, aF, ite_true, ite_false, ite_not, bs])
  have B1 := B.1.frame F1 (fun _ _ q => q)
  have T1 : TA (top (wE h1 (o + 4) (slC T d * 20 + p) x)) o := B1.1
  have F2 : FR (ASl o (slC T d)) h (wE (wE h1 (o + 4) (slC T d * 20 + p) x) (o + 3) (slC T d) (n + 1)) := F1.trans ((FR.wE (Or.inr ⟨rfl, by omega, by omega⟩)).trans (FR.wE (Or.inl ⟨rfl, by omega⟩)))
  refine ⟨_, ?_, F2, B.1.frame F2 (fun _ _ q => q), ⟨by omega, by omega⟩, ?_, fun q q0 q1' => ?_⟩
  · simp (disch := omega) only [m_X0_insert, B.1.1.r5, hl, lm8, lm2, lm1, l0, l1, l2, l3, l4, l5, l6, l7, l8, l9, l10, l11, l12, l13, l14, l15, l16, l17, l18, l19, l20, l21, l22, l23, l24, l25, l27, l31, l32, l40, l46, l48, l50, l57, l59, l63, l86, l96, l97, l100, l110, l114, l122, l127, l200, l255, l300, l319, l320, l340, l441, l456, l580, l600, l800, l886, l1206, l1526, J_add, J_sub, J_mul, J_neg, J_lt, J_le, J_eq, jT, jF, iT, iF, eT, eF, aT, aF, ite_true, ite_false, ite_not, bs]
    unfold l_X0_insert_32
    refine e1.trans ?_
    show j_X0_insert_74 o (J (slC T d)) (J p) (J x) (J n) h1 = _
    simp (disch := omega) only [j_X0_insert_74, B1.1.r6, X5_set_ok B1.1.a6, T1.r5, X5_set_ok T1.a5, lm8, lm2, lm1, l0, l1, l2, l3, l4, l5, l6, l7, l8, l9, l10, l11, l12, l13, l14, l15, l16, l17, l18, l19, l20, l21, l22, l23, l24, l25, l27, l31, l32, l40, l46, l48, l50, l57, l59, l63, l86, l96, l97, l100, l110, l114, l122, l127, l200, l255, l300, l319, l320, l340, l441, l456, l580, l600, l800, l886, l1206, l1526, J_add, J_sub, J_mul, J_neg, J_lt, J_le, J_eq, jT, jF, iT, iF, eT, eF, aT, aF, ite_true, ite_false, ite_not, bs]
  · rw [hE_wE (by omega) (by omega) (by omega) (by omega), if_pos ⟨rfl, rfl⟩]
  · rw [hE_wE_ne (by omega), hE_wE (by omega) (by omega) (by omega) (by omega)]
    unfold shW
    by_cases y : q = p
    · rw [if_pos ⟨rfl, by rw [y]⟩, if_neg (by omega), if_pos y]
    · rw [if_neg (by omega), q1 q q0 (by omega)]
      by_cases y2 : q < p
      · rw [if_neg (by omega), if_pos y2]
        exact hr q q0 (by omega)
      · rw [if_pos (by omega), if_neg y2, if_neg y]
        exact hr (q - 1) (by omega) (by omega)
theorem CB.remove (B : CB h o T z d m ws n r) {p : Int} (p0 : 0 ≤ p) (p1 : p < n) : ∃ h', m_X0_remove o (J (slC T d)) (J p) h = some (J (r p), h') ∧ FR (ASl o (slC T d)) h h' ∧ CB h' o T z d m ws (n - 1) (fun i => if i < p then r i else r (i + 1)) := by
  have hs := B.1.slot
  have hnn := B.2.1
  have hl := B.len
  have hr := B.2.2.2
  have er : m_X5_at (o + 4) (J (slC T d * 20 + p)) h = some (J (r p)) := by
    rw [X5_at_ok B.1.1.a6 (by omega) (by omega) (by omega), atE_in (by omega) (by omega), hr p p0 p1]
  obtain ⟨s, ⟨h1, rfl, F1, q1⟩, e1⟩ := loop_ex (body := fun (k : Int32 × Hp → Option (Int32 × Hp)) (s : Int32 × Hp) => b_X0_remove_38 o (J (slC T d)) (J n) (J (r p)) (fun hz5 => j_X0_remove_82 o (J (slC T d)) (J n) (J (r p)) hz5) (fun v5q hq => k (v5q, hq)) s.1 s.2) (s := (J p, h)) (fun j s => ∃ h', s = (J (p + j), h') ∧ FR (ASl o (slC T d)) h h' ∧ ∀ i, 0 ≤ i → i < n → hE h' (o + 4) (slC T d * 20 + i) = if p ≤ i ∧ i < p + j then hE h (o + 4) (slC T d * 20 + (i + 1)) else hE h (o + 4) (slC T d * 20 + i)) (fun s => j_X0_remove_82 o (J (slC T d)) (J n) (J (r p)) s.2) (n - 1 - p) (by omega) (by omega) ⟨h, by rw [show p + 0 = p by omega], FR.refl _ _, fun i _ _ => (if_neg (by omega)).symm⟩ (by
      rintro K j s j0 j1 ⟨h', rfl, F, q⟩
      have B' := B.1.frame F (fun _ _ q => q)
      have ea : m_X5_at (o + 4) (J (slC T d * 20 + (p + j) + 1)) h' = some (J (hE h' (o + 4) (slC T d * 20 + (p + j) + 1))) := by
        rw [X5_at_ok B'.1.a6 (by omega) (by omega) (by omega), atE_in (by omega) (by omega)]
      refine ⟨(J (p + (j + 1)), wE h' (o + 4) (slC T d * 20 + (p + j)) (hE h' (o + 4) (slC T d * 20 + (p + j) + 1))), ⟨_, rfl, F.trans (FR.wE (Or.inr ⟨rfl, by omega, by omega⟩)), fun i i0 i1 => ?_⟩, ?_⟩
      · rw [hE_wE (by omega) (by omega) (hE_rg _ _ _).1 (hE_rg _ _ _).2]
        by_cases y : i = p + j
        · have := q (p + j + 1) (by omega) (by omega)
          rw [show slC T d * 20 + (p + j + 1) = slC T d * 20 + (p + j) + 1 by omega, if_neg (by omega)] at this
          rw [if_pos ⟨rfl, by rw [y]⟩, if_pos (by omega), this, y, show slC T d * 20 + (p + j) + 1 = slC T d * 20 + (p + j + 1) by omega]
        · rw [if_neg (by omega), q i i0 i1]
          by_cases y2 : p ≤ i ∧ i < p + j
          · rw [if_pos y2, if_pos (by omega)]
          · rw [if_neg y2, if_neg (by omega)]
      · rw [show p + (j + 1) = p + j + 1 by omega]
        show b_X0_remove_38 o (J (slC T d)) (J n) (J (r p)) _ (fun v5q hq => K (v5q, hq)) (J (p + j)) h' = _
        simp (disch := omega) only [b_X0_remove_38, B'.1.r6, ea, X5_set_ok B'.1.a6, lm8, lm2, lm1, l0, l1, l2, l3, l4, l5, l6, l7, l8, l9, l10, l11, l12, l13, l14, l15, l16, l17, l18, l19, l20, l21, l22, l23, l24, l25, l27, l31, l32, l40, l46, l48, l50, l57, l59, l63, l86, l96, l97, l100, l110, l114, l122, l127, l200, l255, l300, l319, l320, l340, l441, l456, l580, l600, l800, l886, l1206, l1526, J_add, J_sub, J_mul, J_neg, J_lt, J_le, J_eq, jT, jF, iT, iF, eT, eF, aT, aF, ite_true, ite_false, ite_not, bs]) (by
      rintro K s ⟨h', rfl, -⟩
      show b_X0_remove_38 o (J (slC T d)) (J n) (J (r p)) _ (fun v5q hq => K (v5q, hq)) (J (p + (n - 1 - p))) h' = _
      simp (disch := omega) only [b_X0_remove_38, lm8, lm2, lm1, l0, l1, l2, l3, l4, l5, l6, l7, l8, l9, l10, l11, l12, l13, l14, l15, l16, l17, l18, l19, l20, l21, l22, l23, l24, l25, l27, l31, l32, l40, l46, l48, l50, l57, l59, l63, l86, l96, l97, l100, l110, l114, l122, l127, l200, l255, l300, l319, l320, l340, l441, l456, l580, l600, l800, l886, l1206, l1526, J_add, J_sub, J_mul, J_neg, J_lt, J_le, J_eq, jT, jF, iT, iF, eT, eF, aT, aF, ite_true, ite_false, ite_not, bs])
  have B1 := B.1.frame F1 (fun _ _ q => q)
  have F2 : FR (ASl o (slC T d)) h (wE h1 (o + 3) (slC T d) (n - 1)) := F1.trans (FR.wE (Or.inl ⟨rfl, by omega⟩))
  refine ⟨_, ?_, F2, B.1.frame F2 (fun _ _ q => q), ⟨by omega, by omega⟩, ?_, fun q q0 q1' => ?_⟩
  · simp (disch := omega) only [m_X0_remove, B.1.1.r5, hl, B.1.1.r6, er, lm8, lm2, lm1, l0, l1, l2, l3, l4, l5, l6, l7, l8, l9, l10, l11, l12, l13, l14, l15, l16, l17, l18, l19, l20, l21, l22, l23, l24, l25, l27, l31, l32, l40, l46, l48, l50, l57, l59, l63, l86, l96, l97, l100, l110, l114, l122, l127, l200, l255, l300, l319, l320, l340, l441, l456, l580, l600, l800, l886, l1206, l1526, J_add, J_sub, J_mul, J_neg, J_lt, J_le, J_eq, jT, jF, iT, iF, eT, eF, aT, aF, ite_true, ite_false, ite_not, bs]
    unfold l_X0_remove_38
    refine e1.trans ?_
    show j_X0_remove_82 o (J (slC T d)) (J n) (J (r p)) h1 = _
    simp (disch := omega) only [j_X0_remove_82, B1.1.r5, X5_set_ok B1.1.a5, lm8, lm2, lm1, l0, l1, l2, l3, l4, l5, l6, l7, l8, l9, l10, l11, l12, l13, l14, l15, l16, l17, l18, l19, l20, l21, l22, l23, l24, l25, l27, l31, l32, l40, l46, l48, l50, l57, l59, l63, l86, l96, l97, l100, l110, l114, l122, l127, l200, l255, l300, l319, l320, l340, l441, l456, l580, l600, l800, l886, l1206, l1526, J_add, J_sub, J_mul, J_neg, J_lt, J_le, J_eq, jT, jF, iT, iF, eT, eF, aT, aF, ite_true, ite_false, ite_not, bs]
  · rw [hE_wE (by omega) (by omega) (by omega) (by omega), if_pos ⟨rfl, rfl⟩]
  · rw [hE_wE_ne (by omega), q1 q q0 (by omega)]
    by_cases y : q < p
    · rw [if_neg (by omega)]
      show _ = (if q < p then r q else r (q + 1))
      rw [if_pos y]
      exact hr q q0 (by omega)
    · rw [if_pos (by omega)]
      show _ = (if q < p then r q else r (q + 1))
      rw [if_neg y]
      exact hr (q + 1) (by omega) (by omega)
/-- the version is told -/
theorem CB.close (B : CB h o T z d m ws n r) (K : VK T z d m ws n r) {dt : Int} (dt0 : -2147483648 ≤ dt) (dt1 : dt < 2147483648) : ∃ h', m_X0_close o (J d) (J (slC T d)) (J dt) h = some h' ∧ FR (ABd o (slC T d)) h h' ∧ CA h' o (mkT T z d m ws n r dt) ∧ hE h' (o + 2) (slC T d) = dt := by
  have hs := B.1.slot
  have hnn := B.2.1
  have hl := B.len
  have hr := B.2.2.2
  obtain ⟨k1, G, k3, k4, k5, k6⟩ := K
  have K : VK T z d m ws n r := ⟨k1, G, k3, k4, k5, k6⟩
  have g := G
  obtain ⟨⟨g1, g2⟩, ⟨g3, g4⟩, g5, ⟨g6, g7⟩, g8, g9⟩ := g
  have hW := B.1.2.1
  have h5 := hW.n5
  have hstd : ∀ t, 0 ≤ t → t < T 5 + m → ((if t < T 5 then stT T t else 0 : Nat) < 1024) := fun t t0 t1 => by
    by_cases y : t < T 5
    · rw [if_pos y]
      exact stT_lt hW t0 y
    · rw [if_neg y]
      decide
  have hst0 : ∀ t, 0 ≤ t → t < T 5 + m → hE h (o + 7) t = (if t < T 5 then stT T t else 0 : Nat) := fun t t0 t1 => by
    by_cases y : t < T 5
    · rw [if_pos y]
      exact (B.1.2.2.2.2.2.2.2.2.2.1 t t0 y).2.2
    · rw [if_neg y]
      have := (B.1.2.2.2.2.2.2.2.2.2.2 (t - T 5) (by omega) (by omega)).2.2
      rw [show T 5 + (t - T 5) = t by omega] at this
      exact this
  obtain ⟨s, ⟨h1, rfl, F1, q1⟩, e1⟩ := loop_ex (body := fun (k : Int32 × Hp → Option Hp) (s : Int32 × Hp) => b_X0_close_10 o (J d) (J (slC T d)) (J dt) (J (T (1 + d))) (fun hz2 => j_X0_close_68 o (J d) (J (slC T d)) (J dt) (J (T (1 + d))) hz2) (fun v5q hq => k (v5q, hq)) s.1 s.2) (s := (J 0, h)) (fun i s => ∃ h', s = (J i, h') ∧ FR (fun b _ => b = o + 7) h h' ∧ ∀ t, 0 ≤ t → t < T 5 + m → hE h' (o + 7) t = ((if t < T 5 then stT T t else 0) ||| (if anyZ i (fun q => decide (r q = t)) = true then 2 ^ (T (1 + d)).toNat else 0) : Nat)) (fun s => j_X0_close_68 o (J d) (J (slC T d)) (J dt) (J (T (1 + d))) s.2) n hnn.1 (by omega) ⟨h, rfl, FR.refl _ _, fun t t0 t1 => by rw [anyZ_0, if_neg (show ¬ (false = true) by decide), Nat.or_zero]; exact hst0 t t0 t1⟩ (by
      rintro K1 i s i0 i1 ⟨h', rfl, F, q⟩
      have t' : TA (top h') o := by rw [F.1]; exact B.1.1
      have hk := k3 i i0 i1
      have el : m_X5_at (o + 3) (J (slC T d)) h' = some (J n) := by
        rw [X5_at_ok t'.a5 (by omega) (by omega) (by omega), atE_in (by omega) (by omega), F.e (by omega), B.2.2.1]
      have er : m_X5_at (o + 4) (J (slC T d * 20 + i)) h' = some (J (r i)) := by
        rw [X5_at_ok t'.a6 (by omega) (by omega) (by omega), atE_in (by omega) (by omega), F.e (by omega), hr i i0 i1]
      have hno : anyZ i (fun q => decide (r q = r i)) = false := anyZ_F.mpr (fun q q0 q1 => decide_eq_false (fun y => by
        have := k4 q i q0 (by omega) i0 i1 y
        omega))
      have hold : hE h' (o + 7) (r i) = (if r i < T 5 then stT T (r i) else 0 : Nat) := by
        rw [q _ hk.1 hk.2.1, hno, if_neg (show ¬ (false = true) by decide), Nat.or_zero]
      have hlt := hstd (r i) hk.1 hk.2.1
      have es : m_X5_at (o + 7) (J (r i)) h' = some (J (if r i < T 5 then stT T (r i) else 0 : Nat)) := by
        rw [X5_at_ok t'.a9 (by omega) (by omega) (by omega), atE_in hk.1 (by omega), hold]
      have eor := or_tab (T (1 + d)).toNat (by omega) _ hlt
      rw [Int.toNat_of_nonneg g3] at eor
      have eor2 : J (if r i < T 5 then stT T (r i) else 0 : Nat) ||| ishlF (J 1) (J (T (1 + d))) = J (((if r i < T 5 then stT T (r i) else 0) ||| 2 ^ (T (1 + d)).toNat : Nat)) := eor
      have hlt2 : ((if r i < T 5 then stT T (r i) else 0) ||| 2 ^ (T (1 + d)).toNat) < 1024 := Nat.or_lt_two_pow (n := 10) hlt (Nat.pow_lt_pow_right (by decide) (by omega))
      generalize hod : (if r i < T 5 then stT T (r i) else 0 : Nat) = od at *
      refine ⟨(J (i + 1), wE h' (o + 7) (r i) ((od ||| 2 ^ (T (1 + d)).toNat : Nat))), ⟨_, rfl, F.trans (FR.wE rfl), fun t t0 t1 => ?_⟩, ?_⟩
      · rw [hE_wE hk.1 t0 (by omega) (by omega), anyZ_succ i0]
        by_cases y : t = r i
        · rw [if_pos ⟨rfl, y⟩, y, decide_eq_true rfl, Bool.or_true, if_pos rfl, hod]
        · rw [if_neg (fun w => y w.2), decide_eq_false (fun w => y w.symm), Bool.or_false]
          exact q t t0 t1
      · show b_X0_close_10 o (J d) (J (slC T d)) (J dt) (J (T (1 + d))) _ (fun v5q hq => K1 (v5q, hq)) (J i) h' = _
        simp (disch := omega) only [b_X0_close_10, t'.r5, el, t'.r6, er, t'.r9, es, lm8, lm2, lm1, l0, l1, l2, l3, l4, l5, l6, l7, l8, l9, l10, l11, l12, l13, l14, l15, l16, l17, l18, l19, l20, l21, l22, l23, l24, l25, l27, l31, l32, l40, l46, l48, l50, l57, l59, l63, l86, l96, l97, l100, l110, l114, l122, l127, l200, l255, l300, l319, l320, l340, l441, l456, l580, l600, l800, l886, l1206, l1526, J_add, J_sub, J_mul, J_neg, J_lt, J_le, J_eq, jT, jF, iT, iF, eT, eF, aT, aF, ite_true, ite_false, ite_not, bs, eor2, X5_set_ok t'.a9]) (by
      rintro K1 s ⟨h', rfl, F, -⟩
      have t' : TA (top h') o := by rw [F.1]; exact B.1.1
      have el : m_X5_at (o + 3) (J (slC T d)) h' = some (J n) := by
        rw [X5_at_ok t'.a5 (by omega) (by omega) (by omega), atE_in (by omega) (by omega), F.e (by omega), B.2.2.1]
      show b_X0_close_10 o (J d) (J (slC T d)) (J dt) (J (T (1 + d))) _ (fun v5q hq => K1 (v5q, hq)) (J n) h' = _
      simp (disch := omega) only [b_X0_close_10, t'.r5, el, lm8, lm2, lm1, l0, l1, l2, l3, l4, l5, l6, l7, l8, l9, l10, l11, l12, l13, l14, l15, l16, l17, l18, l19, l20, l21, l22, l23, l24, l25, l27, l31, l32, l40, l46, l48, l50, l57, l59, l63, l86, l96, l97, l100, l110, l114, l122, l127, l200, l255, l300, l319, l320, l340, l441, l456, l580, l600, l800, l886, l1206, l1526, J_add, J_sub, J_mul, J_neg, J_lt, J_le, J_eq, jT, jF, iT, iF, eT, eF, aT, aF, ite_true, ite_false, ite_not, bs])
  have t1 : TA (top h1) o := by rw [F1.1]; exact B.1.1
  have t2 : TA (top (wE h1 (o + 2) (slC T d) dt)) o := t1
  have cell : ∀ (b : Nat) (i : Int), 0 ≤ i → hE (wE (wE h1 (o + 2) (slC T d) dt) (o + 1) d (T (1 + d) + 1)) b i = if b = o + 1 ∧ i = d then T (1 + d) + 1 else if b = o + 2 ∧ i = slC T d then dt else hE h1 b i := by
    intro b i i0
    rw [hE_wE g1 i0 (by omega) (by omega), hE_wE (by omega) i0 dt0 dt1]
  have ev : m_X0_versionsOf o (J d) h = some (J (T (1 + d))) := B.1.versionsOf
  refine ⟨wE (wE h1 (o + 2) (slC T d) dt) (o + 1) d (T (1 + d) + 1), ?_, ?_, ⟨t1, mk_AW hW K, ?_, ?_, fun e e0 e1 => ?_, fun e v hv => ?_, fun e v q hp => ?_, fun t t0 t1 => ⟨?_, ?_, ?_⟩⟩, ?_⟩
  · simp (disch := omega) only [m_X0_close, rc_ok B.1.tag, ev, lm8, lm2, lm1, l0, l1, l2, l3, l4, l5, l6, l7, l8, l9, l10, l11, l12, l13, l14, l15, l16, l17, l18, l19, l20, l21, l22, l23, l24, l25, l27, l31, l32, l40, l46, l48, l50, l57, l59, l63, l86, l96, l97, l100, l110, l114, l122, l127, l200, l255, l300, l319, l320, l340, l441, l456, l580, l600, l800, l886, l1206, l1526, J_add, J_sub, J_mul, J_neg, J_lt, J_le, J_eq, jT, jF, iT, iF, eT, eF, aT, aF, ite_true, ite_false, ite_not, bs]
    unfold l_X0_close_10
    refine e1.trans ?_
    show j_X0_close_68 o (J d) (J (slC T d)) (J dt) (J (T (1 + d))) h1 = _
    simp (disch := omega) only [j_X0_close_68, t1.r4, X5_set_ok t1.a4, t2.r3, X5_set_ok t2.a3, lm8, lm2, lm1, l0, l1, l2, l3, l4, l5, l6, l7, l8, l9, l10, l11, l12, l13, l14, l15, l16, l17, l18, l19, l20, l21, l22, l23, l24, l25, l27, l31, l32, l40, l46, l48, l50, l57, l59, l63, l86, l96, l97, l100, l110, l114, l122, l127, l200, l255, l300, l319, l320, l340, l441, l456, l580, l600, l800, l886, l1206, l1526, J_add, J_sub, J_mul, J_neg, J_lt, J_le, J_eq, jT, jF, iT, iF, eT, eF, aT, aF, ite_true, ite_false, ite_not, bs]
  · exact (F1.mono (fun b k q => by unfold ABd; omega)).trans ((FR.wE (by unfold ABd; omega)).trans (FR.wE (by unfold ABd; omega)))
  · rw [cell _ _ (by omega), if_neg (by omega), if_neg (by omega), F1.e (by omega), B.1.2.2.2.2.1, mk_0]
  · rw [cell _ _ (by omega), if_neg (by omega), if_neg (by omega), F1.e (by omega), B.1.2.2.2.2.2.1, mk_5 G]
  · rw [cell _ _ e0, mk_n G e0 e1]
    by_cases y : e = d
    · rw [if_pos ⟨rfl, y⟩, if_pos y]
    · rw [if_neg (fun w => y w.2), if_neg (by omega), if_neg y, F1.e (by omega), B.1.2.2.2.2.2.2.1 e e0 e1]
  · have hb : 0 ≤ e ∧ e < 4 ∧ 0 ≤ v ∧ v < 10 := by
      rcases (mk_vv hW K).mp hv with y | ⟨y1, y2⟩
      · exact hW.vb y
      · omega
    rw [cell _ _ (by omega), if_neg (by omega), if_neg (by omega), F1.e (by omega), mk_ln G hb.1 hb.2.1 hb.2.2.1 hb.2.2.2]
    by_cases y : e = d ∧ v = T (1 + d)
    · rw [if_pos y, y.1, y.2]
      exact B.2.2.1
    · rw [if_neg y]
      rcases (mk_vv hW K).mp hv with w | w
      · exact B.1.2.2.2.2.2.2.2.1 e v w
      · exact absurd w y
  · have hb : 0 ≤ e ∧ e < 4 ∧ 0 ≤ v ∧ v < 10 := by
      rcases (mk_vv hW K).mp hp.1 with y | ⟨y1, y2⟩
      · exact hW.vb y
      · omega
    have hq := hp.2
    rw [mk_ln G hb.1 hb.2.1 hb.2.2.1 hb.2.2.2] at hq
    have hq20 : q < 20 := by
      by_cases y : e = d ∧ v = T (1 + d)
      · rw [if_pos y] at hq
        omega
      · rw [if_neg y] at hq
        rcases (mk_vv hW K).mp hp.1 with w | w
        · have := hW.ln w
          omega
        · exact absurd w y
    rw [cell _ _ (by omega), if_neg (by omega), if_neg (by omega), F1.e (by omega), mk_rw G hb.1 hb.2.1 hb.2.2.1 hb.2.2.2 hq.1 hq20]
    by_cases y : e = d ∧ v = T (1 + d)
    · rw [if_pos y] at hq
      rw [if_pos ⟨y, hq.2⟩, y.1, y.2]
      exact hr q hq.1 hq.2
    · rw [if_neg y] at hq
      rw [if_neg (fun w => y w.1)]
      rcases (mk_vv hW K).mp hp.1 with w | w
      · exact B.1.2.2.2.2.2.2.2.2.1 e v q ⟨w, hq.1, hq.2⟩
      · exact absurd w y
  · rw [mk_5 G] at t1
    rw [cell _ _ t0, if_neg (by omega), if_neg (by omega), F1.e (by omega), mk_wd G t0 (by omega)]
    by_cases y : T 5 ≤ t
    · rw [if_pos ⟨y, t1⟩]
      have := (B.1.2.2.2.2.2.2.2.2.2.2 (t - T 5) (by omega) (by omega)).1
      rw [show T 5 + (t - T 5) = t by omega] at this
      exact this
    · rw [if_neg (by omega)]
      exact (B.1.2.2.2.2.2.2.2.2.2.1 t t0 (by omega)).1
  · rw [mk_5 G] at t1
    rw [cell _ _ t0, if_neg (by omega), if_neg (by omega), F1.e (by omega), mk_ow G t0 (by omega)]
    by_cases y : T 5 ≤ t
    · rw [if_pos ⟨y, t1⟩]
      have := (B.1.2.2.2.2.2.2.2.2.2.2 (t - T 5) (by omega) (by omega)).2.1
      rw [show T 5 + (t - T 5) = t by omega] at this
      exact this
    · rw [if_neg (by omega)]
      exact (B.1.2.2.2.2.2.2.2.2.2.1 t t0 (by omega)).2.1
  · rw [mk_5 G] at t1
    rw [cell _ _ t0, if_neg (by omega), if_neg (by omega), mk_st hW K t0 t1]
    exact q1 t t0 t1
  · rw [cell _ _ (by omega), if_neg (by omega), if_pos ⟨rfl, rfl⟩]
end BU
