/-! PURE PART: the reference builds a version -/
def ATo (o b k : Nat) : Prop := b = o + 9
/-- the told row shows T, whatever is handed out -/
def RT (h : Hp) (o : Nat) (T : Int → Int) : Prop := TR (top h) o ∧ AW T ∧ ∀ k, 0 ≤ k → k < 1526 → hE h (o + 9) k = T k
/-- the told row shows T with a version more, as far as it is made -/
def RB (h : Hp) (o : Nat) (T : Int → Int) (z d m : Int) (ws : Int → Int) (n : Int) (r : Int → Int) (dt : Int) : Prop := TR (top h) o ∧ AW T ∧ MG T d m n ∧ (z = 0 ∨ z = 1) ∧ ∀ k, 0 ≤ k → k < 1526 → hE h (o + 9) k = mkT T z d m ws n r dt k
theorem frA {o : Nat} {h : Hp} {i z : Int} : FR (ATo o) h (wE h (o + 9) i z) := FR.wE (A := ATo o) (show ATo o (o + 9) i.toNat from rfl)
section TO
variable {h : Hp} {o : Nat} {T : Int → Int} {z d m n dt : Int} {ws r : Int → Int}
theorem up_beg (G : MG T d 0 0) {k : Int} : (if k = 6 + slV T d then dt else if k = 46 + slV T d then 0 else if k = 1 + d then T (1 + d) + 1 else if k = 0 then T 0 + z else T k) = mkT T z d 0 ws 0 r dt k := by
  obtain ⟨⟨g1, g2⟩, ⟨g3, g4⟩, g5, ⟨g6, g7⟩, g8, g9⟩ := G
  unfold mkT slV
  rw [if_neg (show ¬ (86 + 20 * (10 * d + T (1 + d)) ≤ k ∧ k < 86 + 20 * (10 * d + T (1 + d)) + 0) by omega), if_neg (show ¬ (886 + T 5 ≤ k ∧ k < 886 + T 5 + 0) by omega), if_neg (show ¬ (1206 + T 5 ≤ k ∧ k < 1206 + T 5 + 0) by omega)]
  by_cases c0 : k = 0
  · rw [if_neg (by omega), if_neg (by omega), if_neg (by omega), if_pos c0, if_pos c0]
  · rw [if_neg c0, if_neg c0]
    by_cases c1 : k = 1 + d
    · rw [if_neg (by omega), if_neg (by omega), if_pos c1, if_pos c1]
    · rw [if_neg c1, if_neg c1]
      by_cases c2 : k = 5
      · rw [if_neg (by omega), if_neg (by omega), if_pos c2, c2, Int.add_zero]
      · rw [if_neg c2]
theorem up_tok (G : MG T d m n) {k : Int} : (if k = 5 then T 5 + m + 1 else if k = 1206 + (T 5 + m) then d else if k = 886 + (T 5 + m) then ws m else mkT T z d m ws n r dt k) = mkT T z d (m + 1) ws n r dt k := by
  obtain ⟨⟨g1, g2⟩, ⟨g3, g4⟩, g5, ⟨g6, g7⟩, g8, g9⟩ := G
  by_cases hm : T 5 + m = 319 + 1
  · omega
  unfold mkT slV
  by_cases c0 : k = 5
  · rw [if_pos c0, if_neg (by omega), if_neg (by omega), if_pos c0]
    omega
  · rw [if_neg c0]
    by_cases c1 : k = 1206 + (T 5 + m)
    · rw [if_pos c1, if_neg (by omega), if_neg (by omega), if_neg c0, if_neg (by omega), if_neg (by omega), if_neg (by omega), if_neg (by omega), if_pos (by omega)]
    · rw [if_neg c1]
      by_cases c2 : k = 886 + (T 5 + m)
      · rw [if_pos c2, if_neg (by omega), if_neg (by omega), if_neg c0, if_neg (by omega), if_neg (by omega), if_neg (by omega), if_pos (by omega), show k - (886 + T 5) = m by omega]
      · rw [if_neg c2, if_neg c0]
        have e1 : (886 + T 5 ≤ k ∧ k < 886 + T 5 + (m + 1)) = (886 + T 5 ≤ k ∧ k < 886 + T 5 + m) := propext ⟨fun q => by omega, fun q => by omega⟩
        have e2 : (1206 + T 5 ≤ k ∧ k < 1206 + T 5 + (m + 1)) = (1206 + T 5 ≤ k ∧ k < 1206 + T 5 + m) := propext ⟨fun q => by omega, fun q => by omega⟩
        simp only [e1, e2, if_neg c0]
theorem up_add (G : MG T d m n) {k : Int} : (if k = 46 + slV T d then n + 1 else if k = 86 + 20 * slV T d + n then r n else mkT T z d m ws n r dt k) = mkT T z d m ws (n + 1) r dt k := by
  obtain ⟨⟨g1, g2⟩, ⟨g3, g4⟩, g5, ⟨g6, g7⟩, g8, g9⟩ := G
  unfold mkT
  have hs : 0 ≤ slV T d ∧ slV T d < 40 := by unfold slV; omega
  generalize slV T d = s at *
  by_cases c0 : k = 46 + s
  · rw [if_pos c0, if_neg (by omega), if_neg (by omega), if_neg (by omega), if_neg (by omega), if_pos c0]
  · rw [if_neg c0]
    by_cases c1 : k = 86 + 20 * s + n
    · rw [if_pos c1, if_neg (by omega), if_neg (by omega), if_neg (by omega), if_neg (by omega), if_neg c0, if_pos (by omega), show k - (86 + 20 * s) = n by omega]
    · rw [if_neg c1]
      have e1 : (86 + 20 * s ≤ k ∧ k < 86 + 20 * s + (n + 1)) = (86 + 20 * s ≤ k ∧ k < 86 + 20 * s + n) := propext ⟨fun q => by omega, fun q => by omega⟩
      simp only [e1, if_neg c0]
theorem mk_ln0 (G : MG T d m n) : mkT T z d m ws n r dt (46 + slV T d) = n := by
  obtain ⟨⟨g1, g2⟩, ⟨g3, g4⟩, g5, ⟨g6, g7⟩, g8, g9⟩ := G
  unfold mkT slV
  simp (disch := omega) only [eT, eF, aT, aF, if_true]
theorem RB.tag (B : RB h o T z d m ws n r dt) : hTag h o = 12 := B.1.1
theorem RB.told (B : RB h o T z d m ws n r dt) {k : Int} (h0 : 0 ≤ k) (h1 : k < 1526) : alI h (o + 9) (J k) = some (J (mkT T z d m ws n r dt k)) := by
  rw [alI_ok B.1.a18 h0 (by omega) (by omega), B.2.2.2.2 k h0 h1]
theorem RB.latest (B : RB h o T z d m ws n r dt) : m_X12_latest o (J d) h = some (J (slV T d)) := by
  have G := B.2.2.1
  have e := mk_n (T := T) (z := z) (ws := ws) (r := r) (dt := dt) G G.1.1 G.1.2
  rw [if_pos rfl] at e
  obtain ⟨⟨g1, g2⟩, ⟨g3, g4⟩, g5, ⟨g6, g7⟩, g8, g9⟩ := G
  have e2 : alI h (o + 9) (J (1 + d)) = some (J (T (1 + d) + 1)) := by rw [B.told (by omega) (by omega), e]
  unfold slV
  simp (disch := omega) only [m_X12_latest, B.1.r18, e2, X12_at_ok, lm8, lm2, lm1, l0, l1, l2, l3, l4, l5, l6, l7, l8, l9, l10, l11, l12, l13, l14, l15, l16, l17, l18, l19, l20, l21, l22, l23, l24, l25, l27, l31, l32, l40, l46, l48, l50, l57, l59, l63, l86, l96, l97, l100, l110, l114, l122, l127, l200, l255, l300, l319, l320, l340, l441, l456, l580, l600, l800, l886, l1206, l1526, J_add, J_sub, J_mul, J_neg, J_lt, J_le, J_eq, jT, jF, iT, iF, eT, eF, aT, aF, ite_true, ite_false, ite_not, bs]
  rw [show T (1 + d) + 1 - 1 = T (1 + d) by omega]
theorem RB.congr {ws' r' : Int → Int} (B : RB h o T z d m ws n r dt) (e1 : ∀ i, 0 ≤ i → i < m → ws i = ws' i) (e2 : ∀ q, 0 ≤ q → q < n → r q = r' q) : RB h o T z d m ws' n r' dt := by
  obtain ⟨b1, b2, b3, b4, b5⟩ := B
  refine ⟨b1, b2, b3, b4, fun k k0 k1 => ?_⟩
  rw [b5 k k0 k1]
  obtain ⟨⟨g1, g2⟩, ⟨g3, g4⟩, g5, ⟨g6, g7⟩, g8, g9⟩ := b3
  unfold mkT
  by_cases c1 : 86 + 20 * slV T d ≤ k ∧ k < 86 + 20 * slV T d + n
  · rw [e2 _ (by omega) (by omega)]
    by_cases c2 : 886 + T 5 ≤ k ∧ k < 886 + T 5 + m
    · rw [e1 _ (by omega) (by omega)]
    · simp only [if_neg c2]
  · simp only [if_neg c1]
    by_cases c2 : 886 + T 5 ≤ k ∧ k < 886 + T 5 + m
    · rw [e1 _ (by omega) (by omega)]
    · simp only [if_neg c2]
theorem RB.newToken (B : RB h o T z d m ws n r dt) (h5 : T 5 + m + 1 ≤ 319) (hw : wrg (ws m)) : ∃ h', m_X12_newToken o (J d) (J (ws m)) h = some (J (T 5 + m), h') ∧ FR (ATo o) h h' ∧ RB h' o T z d (m + 1) ws n r dt := by
  have G := B.2.2.1
  have e5 := mk_5 (T := T) (z := z) (ws := ws) (r := r) (dt := dt) G
  have g := G
  obtain ⟨⟨g1, g2⟩, ⟨g3, g4⟩, g5, ⟨g6, g7⟩, g8, g9⟩ := g
  obtain ⟨w1, w2, -⟩ := hw
  have t0 := B.1
  have e2 : alI h (o + 9) (J 5) = some (J (T 5 + m)) := by rw [B.told (by omega) (by omega), e5]
  refine ⟨wE (wE (wE h (o + 9) (886 + (T 5 + m)) (ws m)) (o + 9) (1206 + (T 5 + m)) d) (o + 9) 5 (T 5 + m + 1), ?_, (frA.trans frA).trans frA, ?_⟩
  · have t1 : TR (top (wE h (o + 9) (886 + (T 5 + m)) (ws m))) o := t0
    have t2 : TR (top (wE (wE h (o + 9) (886 + (T 5 + m)) (ws m)) (o + 9) (1206 + (T 5 + m)) d)) o := t0
    simp (disch := omega) only [m_X12_newToken, t0.r18, t1.r18, t2.r18, e2, asI_ok t0.a18, asI_ok t1.a18, asI_ok t2.a18, X12_lesser_ok, lm8, lm2, lm1, l0, l1, l2, l3, l4, l5, l6, l7, l8, l9, l10, l11, l12, l13, l14, l15, l16, l17, l18, l19, l20, l21, l22, l23, l24, l25, l27, l31, l32, l40, l46, l48, l50, l57, l59, l63, l86, l96, l97, l100, l110, l114, l122, l127, l200, l255, l300, l319, l320, l340, l441, l456, l580, l600, l800, l886, l1206, l1526, J_add, J_sub, J_mul, J_neg, J_lt, J_le, J_eq, jT, jF, iT, iF, eT, eF, aT, aF, ite_true, ite_false, ite_not, bs]
    rw [show min 319 (T 5 + m + 1) = T 5 + m + 1 by omega]
  · refine ⟨t0, B.2.1, ⟨⟨g1, g2⟩, ⟨g3, g4⟩, g5, ⟨by omega, by omega⟩, g8, g9⟩, B.2.2.2.1, fun k k0 k1 => ?_⟩
    rw [hE_wE (by omega) k0 (by omega) (by omega), hE_wE (by omega) k0 (by omega) (by omega), hE_wE (by omega) k0 (by omega) (by omega), B.2.2.2.2 k k0 k1, ← up_tok G]
    simp only [true_and]
theorem RB.addWord (B : RB h o T z d m ws n r dt) (hn : n < 20) (r0 : -2147483648 ≤ r n) (r1 : r n < 2147483648) : ∃ h', m_X12_addWord o (J d) (J (r n)) h = some h' ∧ FR (ATo o) h h' ∧ RB h' o T z d m ws (n + 1) r dt := by
  have G := B.2.2.1
  have e46 := mk_ln0 (T := T) (z := z) (ws := ws) (r := r) (dt := dt) G
  have g := G
  obtain ⟨⟨g1, g2⟩, ⟨g3, g4⟩, g5, ⟨g6, g7⟩, g8, g9⟩ := g
  have hs : 0 ≤ slV T d ∧ slV T d < 40 := by unfold slV; omega
  have t0 := B.1
  have e2 : alI h (o + 9) (J (46 + slV T d)) = some (J n) := by rw [B.told (by omega) (by omega), e46]
  refine ⟨wE (wE h (o + 9) (86 + 20 * slV T d + n) (r n)) (o + 9) (46 + slV T d) (n + 1), ?_, frA.trans frA, ?_⟩
  · have t1 : TR (top (wE h (o + 9) (86 + 20 * slV T d + n) (r n))) o := t0
    have e3 : alI (wE h (o + 9) (86 + 20 * slV T d + n) (r n)) (o + 9) (J (46 + slV T d)) = some (J n) := by
      rw [alI_ok t1.a18 (by omega) (by omega) (by omega), hE_wE (by omega) (by omega) r0 r1, if_neg (by omega), B.2.2.2.2 _ (by omega) (by omega), e46]
    simp (disch := omega) only [m_X12_addWord, rc_ok B.tag, B.latest, t0.r18, t1.r18, e2, e3, asI_ok t0.a18, asI_ok t1.a18, lm8, lm2, lm1, l0, l1, l2, l3, l4, l5, l6, l7, l8, l9, l10, l11, l12, l13, l14, l15, l16, l17, l18, l19, l20, l21, l22, l23, l24, l25, l27, l31, l32, l40, l46, l48, l50, l57, l59, l63, l86, l96, l97, l100, l110, l114, l122, l127, l200, l255, l300, l319, l320, l340, l441, l456, l580, l600, l800, l886, l1206, l1526, J_add, J_sub, J_mul, J_neg, J_lt, J_le, J_eq, jT, jF, iT, iF, eT, eF, aT, aF, ite_true, ite_false, ite_not, bs]
  · refine ⟨t0, B.2.1, ⟨⟨g1, g2⟩, ⟨g3, g4⟩, g5, ⟨by omega, by omega⟩, by omega, by omega⟩, B.2.2.2.1, fun k k0 k1 => ?_⟩
    rw [hE_wE (by omega) k0 (by omega) (by omega), hE_wE (by omega) k0 r0 r1, B.2.2.2.2 k k0 k1, ← up_add G]
    simp only [true_and]
theorem RT.begin (H : RT h o T) {d : Int} (d0 : 0 ≤ d) (d1 : d < T 0) (h9 : T (1 + d) ≤ 9) (hd : hE h o 23 = dt) (ws r : Int → Int) : ∃ h', m_X12_beginVersion o (J d) h = some h' ∧ FR (ATo o) h h' ∧ RB h' o T 0 d 0 ws 0 r dt := by
  have h0 := H.2.1.n0
  have h5 := H.2.1.n5
  have hn := H.2.1.nv d0 (by omega)
  have G : MG T d 0 0 := ⟨⟨d0, by omega⟩, ⟨hn.1, h9⟩, h5.1, ⟨Int.le_refl 0, by omega⟩, Int.le_refl 0, by omega⟩
  have t0 := H.1
  have hr := hE_rg h o 23
  rw [hd] at hr
  have hs : 0 ≤ slV T d ∧ slV T d < 40 := by unfold slV; omega
  have e1 : alI h (o + 9) (J (1 + d)) = some (J (T (1 + d))) := by rw [alI_ok t0.a18 (by omega) (by omega) (by omega), H.2.2 _ (by omega) (by omega)]
  have t1 : TR (top (wE h (o + 9) (1 + d) (T (1 + d) + 1))) o := t0
  have t2 : TR (top (wE (wE h (o + 9) (1 + d) (T (1 + d) + 1)) (o + 9) (46 + slV T d) 0)) o := t0
  have l1' : m_X12_latest o (J d) (wE h (o + 9) (1 + d) (T (1 + d) + 1)) = some (J (slV T d)) := by
    have e2 : alI (wE h (o + 9) (1 + d) (T (1 + d) + 1)) (o + 9) (J (1 + d)) = some (J (T (1 + d) + 1)) := by rw [alI_ok t1.a18 (by omega) (by omega) (by omega), hE_wE (by omega) (by omega) (by omega) (by omega), if_pos ⟨rfl, rfl⟩]
    unfold slV
    simp (disch := omega) only [m_X12_latest, t1.r18, e2, X12_at_ok, lm8, lm2, lm1, l0, l1, l2, l3, l4, l5, l6, l7, l8, l9, l10, l11, l12, l13, l14, l15, l16, l17, l18, l19, l20, l21, l22, l23, l24, l25, l27, l31, l32, l40, l46, l48, l50, l57, l59, l63, l86, l96, l97, l100, l110, l114, l122, l127, l200, l255, l300, l319, l320, l340, l441, l456, l580, l600, l800, l886, l1206, l1526, J_add, J_sub, J_mul, J_neg, J_lt, J_le, J_eq, jT, jF, iT, iF, eT, eF, aT, aF, ite_true, ite_false, ite_not, bs]
    rw [show T (1 + d) + 1 - 1 = T (1 + d) by omega]
  have l2' : m_X12_latest o (J d) (wE (wE h (o + 9) (1 + d) (T (1 + d) + 1)) (o + 9) (46 + slV T d) 0) = some (J (slV T d)) := by
    have e2 : alI (wE (wE h (o + 9) (1 + d) (T (1 + d) + 1)) (o + 9) (46 + slV T d) 0) (o + 9) (J (1 + d)) = some (J (T (1 + d) + 1)) := by rw [alI_ok t2.a18 (by omega) (by omega) (by omega), hE_wE (by omega) (by omega) (by omega) (by omega), if_neg (by omega), hE_wE (by omega) (by omega) (by omega) (by omega), if_pos ⟨rfl, rfl⟩]
    simp (disch := omega) only [m_X12_latest, t2.r18, e2, X12_at_ok, lm8, lm2, lm1, l0, l1, l2, l3, l4, l5, l6, l7, l8, l9, l10, l11, l12, l13, l14, l15, l16, l17, l18, l19, l20, l21, l22, l23, l24, l25, l27, l31, l32, l40, l46, l48, l50, l57, l59, l63, l86, l96, l97, l100, l110, l114, l122, l127, l200, l255, l300, l319, l320, l340, l441, l456, l580, l600, l800, l886, l1206, l1526, J_add, J_sub, J_mul, J_neg, J_lt, J_le, J_eq, jT, jF, iT, iF, eT, eF, aT, aF, ite_true, ite_false, ite_not, bs]
    rw [show 10 * d + (T (1 + d) + 1 - 1) = slV T d by unfold slV; omega]
  have e23 : gfI (wE (wE h (o + 9) (1 + d) (T (1 + d) + 1)) (o + 9) (46 + slV T d) 0) o 12 23 = some (J dt) := by
    rw [t2.f23, hE_wE_ne (by omega), hE_wE_ne (by omega), hd]
  refine ⟨wE (wE (wE h (o + 9) (1 + d) (T (1 + d) + 1)) (o + 9) (46 + slV T d) 0) (o + 9) (6 + slV T d) dt, ?_, (frA.trans frA).trans frA, ?_⟩
  · have q1 : hTag (wE h (o + 9) (1 + d) (T (1 + d) + 1)) o = 12 := t0.1
    have q2 : hTag (wE (wE h (o + 9) (1 + d) (T (1 + d) + 1)) (o + 9) (46 + slV T d) 0) o = 12 := t0.1
    simp (disch := omega) only [m_X12_beginVersion, t0.r18, t1.r18, t2.r18, e1, asI_ok t0.a18, asI_ok t1.a18, asI_ok t2.a18, rc_ok q1, rc_ok q2, l1', l2', e23, lm8, lm2, lm1, l0, l1, l2, l3, l4, l5, l6, l7, l8, l9, l10, l11, l12, l13, l14, l15, l16, l17, l18, l19, l20, l21, l22, l23, l24, l25, l27, l31, l32, l40, l46, l48, l50, l57, l59, l63, l86, l96, l97, l100, l110, l114, l122, l127, l200, l255, l300, l319, l320, l340, l441, l456, l580, l600, l800, l886, l1206, l1526, J_add, J_sub, J_mul, J_neg, J_lt, J_le, J_eq, jT, jF, iT, iF, eT, eF, aT, aF, ite_true, ite_false, ite_not, bs]
  · refine ⟨t0, H.2.1, G, Or.inl rfl, fun k k0 k1 => ?_⟩
    rw [hE_wE (by omega) k0 (by omega) (by omega), hE_wE (by omega) k0 (by omega) (by omega), hE_wE (by omega) k0 (by omega) (by omega), H.2.2 k k0 k1, ← up_beg G]
    simp only [true_and]
    by_cases c : k = 0
    · simp (disch := omega) only [eF, c]
      omega
    · simp only [if_neg c]
/-- as many words more from the row of words read -/
theorem RB.words {w : Int} {n0 : Int} (B : RB h o T z d 0 ws n0 r dt) (w0 : 0 ≤ w) (w1 : n0 + w ≤ 20) (h5 : T 5 + w ≤ 319) (hws : ∀ i, 0 ≤ i → i < w → wrg (ws i)) (hr : ∀ i, 0 ≤ i → i < w → r (n0 + i) = T 5 + i) (hsp : ∀ i, 0 ≤ i → i < w → hE h (o + 11) i = ws i) {R : Type} (E : Hp → Option R) (body : (Int32 × Hp → Option R) → Int32 × Hp → Option R) (hb : ∀ k i h', FR (ATo o) h h' → 0 ≤ i → i < w → body k (J i, h') = (alI h' (o + 11) (J i)).bind fun x1 => (rc h' o 12 (m_X12_newToken o (J d) x1 h')).bind fun x2 => (rc x2.2 o 12 (m_X12_addWord o (J d) x2.1 x2.2)).bind fun x3 => k (J (i + 1), x3)) (he : ∀ k h', FR (ATo o) h h' → body k (J w, h') = E h') : ∃ h', loopK FUEL body (J 0, h) = E h' ∧ FR (ATo o) h h' ∧ RB h' o T z d w ws (n0 + w) r dt := by
  have hW := B.2.1
  have ht := hW.n5
  have n00 := B.2.2.1.2.2.2.2.1
  obtain ⟨s, ⟨h1, rfl, F1, B1⟩, e1⟩ := loop_ex (body := body) (s := (J 0, h)) (fun i s => ∃ h', s = (J i, h') ∧ FR (ATo o) h h' ∧ RB h' o T z d i ws (n0 + i) r dt) (fun s => E s.2) w w0 (by omega) ⟨h, rfl, FR.refl _ _, by rw [show n0 + 0 = n0 by omega]; exact B⟩ (by
      rintro k i s i0 i1 ⟨h', rfl, F, B'⟩
      obtain ⟨h2, e2, F2, B2⟩ := B'.newToken (by omega) (hws i i0 i1)
      have hri := hr i i0 i1
      obtain ⟨h3, e3, F3, B3⟩ := B2.addWord (by omega) (by omega) (by omega)
      rw [hri] at e3
      have e4 : alI h' (o + 11) (J i) = some (J (ws i)) := by rw [alI_ok B'.1.a20 i0 (by omega) (by omega), F.e (by unfold ATo; omega), hsp i i0 i1]
      refine ⟨(J (i + 1), h3), ⟨h3, rfl, (F.trans F2).trans F3, ?_⟩, ?_⟩
      · rw [show n0 + (i + 1) = n0 + i + 1 by omega]
        exact B3
      · rw [hb k i h' F i0 i1, e4, bs, rc_ok B'.tag, e2, bs, rc_ok B2.tag, e3, bs]) (by
      rintro k s ⟨h', rfl, F, -⟩
      exact he k h' F)
  exact ⟨h1, e1, F1, B1⟩
theorem RB.done (B : RB h o T z d m ws n r dt) (K : VK T z d m ws n r) : RT h o (mkT T z d m ws n r dt) := ⟨B.1, mk_AW B.2.1 K, B.2.2.2.2⟩
theorem RM.t (H : RM h o T) : RT h o T := ⟨H.1, H.2.1, H.2.2.2⟩
end TO
