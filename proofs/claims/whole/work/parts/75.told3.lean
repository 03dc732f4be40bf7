/-! PURE PART: put, cut, back: the reference -/
section TV
variable {h : Hp} {o : Nat} {T : Int → Int} {z d m n dt : Int} {ws r : Int → Int} {R : Type}
/-- a word of an earlier version goes over -/
theorem RB.copyOne (B : RB h o T 0 d m ws n r dt) {e i : Int} (hv : vvT T d e) (i0 : 0 ≤ i) (i1 : i < lnT T d e) (hn : n < 20) (hri : r n = rwT T d e i) (F : Hp → Option R) : ∃ h', ((gfR h o 12 18).bind fun x1 => (alI h x1 (((86 : Int32) + ((20 : Int32) * J (10 * d + e))) + J i)).bind fun x2 => (rc h o 12 (m_X12_addWord o (J d) x2 h)).bind fun x3 => F x3) = F h' ∧ FR (ATo o) h h' ∧ RB h' o T 0 d m ws (n + 1) r dt := by
  have hb := B.2.1.vb hv
  have hl := B.2.1.ln hv
  have h5 := B.2.1.n5
  have hr := rw_in B.2.1 hv i0 i1
  obtain ⟨h', e1, F1, B1⟩ := B.addWord hn (by omega) (by omega)
  rw [hri] at e1
  have ec : mkT T 0 d m ws n r dt (86 + 20 * (10 * d + e) + i) = rwT T d e i := by
    have := mk_rw (T := T) (z := 0) (m := m) (ws := ws) (r := r) (dt := dt) B.2.2.1 hb.1 hb.2.1 hb.2.2.1 hb.2.2.2 i0 (by omega : i < 20)
    rw [if_neg (fun q => by have := hv.2.2.2; have := q.1.2; omega)] at this
    exact this
  have e2 : alI h (o + 9) (J (86 + 20 * (10 * d + e) + i)) = some (J (rwT T d e i)) := by rw [B.told (by omega) (by omega), ec]
  refine ⟨h', ?_, F1, B1⟩
  simp (disch := omega) only [B.1.r18, e2, rc_ok B.tag, e1, lm8, lm2, lm1, l0, l1, l2, l3, l4, l5, l6, l7, l8, l9, l10, l11, l12, l13, l14, l15, l16, l17, l18, l19, l20, l21, l22, l23, l24, l25, l27, l31, l32, l40, l46, l48, l50, l57, l59, l63, l86, l96, l97, l100, l110, l114, l122, l127, l200, l255, l300, l319, l320, l340, l441, l456, l580, l600, l800, l886, l1206, l1526, J_add, J_sub, J_mul, J_neg, J_lt, J_le, J_eq, jT, jF, iT, iF, eT, eF, aT, aF, ite_true, ite_false, ite_not, bs]
theorem X12_mv74 (t : TR (top h) o) {c p i : Int} (hp : hE h (o + 10) 1 = p) (hc : 0 ≤ c ∧ c < 4) (i0 : 0 ≤ i) (i1 : i < 100) (hci : c ≠ 0 ∨ p ≠ i) {v2 v3 v4 : Int32} {K : Hp → Option Hp} : l_X12_makeVersion_74 o (J c) v2 v3 v4 (J i) K (J 0) h = K h := by
  have hr := hE_rg h (o + 10) 1
  have hr2 := hE_rg h o 21
  have e1 : alI h (o + 10) (J 1) = some (J p) := by rw [alI_ok t.a19 (by omega) (by omega) (by omega), hp]
  refine loop_stop (fun k => ?_)
  show b_X12_makeVersion_74 o (J c) v2 v3 v4 (J i) K _ (J 0) h = _
  by_cases c0 : c = 0
  · have : i < p ∨ p < i := by omega
    by_cases c1 : hE h o 21 ≤ 0
    · simp (disch := omega) only [b_X12_makeVersion_74, t.f21, lm8, lm2, lm1, l0, l1, l2, l3, l4, l5, l6, l7, l8, l9, l10, l11, l12, l13, l14, l15, l16, l17, l18, l19, l20, l21, l22, l23, l24, l25, l27, l31, l32, l40, l46, l48, l50, l57, l59, l63, l86, l96, l97, l100, l110, l114, l122, l127, l200, l255, l300, l319, l320, l340, l441, l456, l580, l600, l800, l886, l1206, l1526, J_add, J_sub, J_mul, J_neg, J_lt, J_le, J_eq, jT, jF, iT, iF, eT, eF, aT, aF, ite_true, ite_false, ite_not, bs]
    · simp (disch := omega) only [b_X12_makeVersion_74, t.f21, t.r19, e1, lm8, lm2, lm1, l0, l1, l2, l3, l4, l5, l6, l7, l8, l9, l10, l11, l12, l13, l14, l15, l16, l17, l18, l19, l20, l21, l22, l23, l24, l25, l27, l31, l32, l40, l46, l48, l50, l57, l59, l63, l86, l96, l97, l100, l110, l114, l122, l127, l200, l255, l300, l319, l320, l340, l441, l456, l580, l600, l800, l886, l1206, l1526, J_add, J_sub, J_mul, J_neg, J_lt, J_le, J_eq, jT, jF, iT, iF, eT, eF, aT, aF, ite_true, ite_false, ite_not, bs]
  · by_cases c1 : hE h o 21 ≤ 0
    · simp (disch := omega) only [b_X12_makeVersion_74, t.f21, lm8, lm2, lm1, l0, l1, l2, l3, l4, l5, l6, l7, l8, l9, l10, l11, l12, l13, l14, l15, l16, l17, l18, l19, l20, l21, l22, l23, l24, l25, l27, l31, l32, l40, l46, l48, l50, l57, l59, l63, l86, l96, l97, l100, l110, l114, l122, l127, l200, l255, l300, l319, l320, l340, l441, l456, l580, l600, l800, l886, l1206, l1526, J_add, J_sub, J_mul, J_neg, J_lt, J_le, J_eq, jT, jF, iT, iF, eT, eF, aT, aF, ite_true, ite_false, ite_not, bs]
    · simp (disch := omega) only [b_X12_makeVersion_74, t.f21, lm8, lm2, lm1, l0, l1, l2, l3, l4, l5, l6, l7, l8, l9, l10, l11, l12, l13, l14, l15, l16, l17, l18, l19, l20, l21, l22, l23, l24, l25, l27, l31, l32, l40, l46, l48, l50, l57, l59, l63, l86, l96, l97, l100, l110, l114, l122, l127, l200, l255, l300, l319, l320, l340, l441, l456, l580, l600, l800, l886, l1206, l1526, J_add, J_sub, J_mul, J_neg, J_lt, J_le, J_eq, jT, jF, iT, iF, eT, eF, aT, aF, ite_true, ite_false, ite_not, bs]
theorem RT.start (H : RT h o T) {d e : Int} (hv : vvT T d e) (h9 : T (1 + d) ≤ 9) (hd : hE h o 23 = dt) (ws r : Int → Int) (K : Hp → Option Hp) {c : Int} (hc : 0 ≤ c ∧ c < 4) (hK : c ≠ 2) : ∃ h', j_X12_makeVersion_30 o (J c) (J d) (J (10 * d + e)) h = l_X12_makeVersion_64 o (J c) (J d) (J (10 * d + e)) (J (lnT T d e)) (J 0) h' ∧ FR (ATo o) h h' ∧ RB h' o T 0 d 0 ws 0 r dt := by
  have hb := H.2.1.vb hv
  obtain ⟨h', e1, F1, B1⟩ := H.begin hb.1 hv.2.1 h9 hd ws r
  refine ⟨h', ?_, F1, B1⟩
  have e2 : alI h (o + 9) (J (46 + (10 * d + e))) = some (J (lnT T d e)) := H.told (by omega) (by omega)
  have : c < 2 ∨ 2 < c := by omega
  simp (disch := omega) only [j_X12_makeVersion_30, H.1.r18, e2, rc_ok H.tag, e1, lm8, lm2, lm1, l0, l1, l2, l3, l4, l5, l6, l7, l8, l9, l10, l11, l12, l13, l14, l15, l16, l17, l18, l19, l20, l21, l22, l23, l24, l25, l27, l31, l32, l40, l46, l48, l50, l57, l59, l63, l86, l96, l97, l100, l110, l114, l122, l127, l200, l255, l300, l319, l320, l340, l441, l456, l580, l600, l800, l886, l1206, l1526, J_add, J_sub, J_mul, J_neg, J_lt, J_le, J_eq, jT, jF, iT, iF, eT, eF, aT, aF, ite_true, ite_false, ite_not, bs]
/-- the outer loop, step by step -/
theorem RB.round (B : RB h o T 0 d 0 ws 0 r dt) {e p w : Int} {c : Int} (hv : vvT T d e) (hc : c = 0 ∨ c = 1 ∨ c = 3) (hp : hE h (o + 10) 1 = p) (hp2 : c = 1 → hE h (o + 10) 2 = w) (w0 : 0 ≤ w) (hput : c = 0 → 0 ≤ p ∧ p ≤ lnT T d e ∧ lnT T d e + w ≤ 20 ∧ T 5 + w ≤ 319 ∧ hE h o 21 = w ∧ (∀ i, 0 ≤ i → i < w → wrg (ws i)) ∧ (∀ i, 0 ≤ i → i < w → hE h (o + 11) i = ws i) ∧ ∀ q, r q = rPut T d e p w q) (hcut : c = 1 → 0 ≤ p ∧ p + w ≤ lnT T d e ∧ ∀ q, r q = rCut T d e p w q) (hbck : c = 3 → ∀ q, r q = rwT T d e q) : ∃ h', l_X12_makeVersion_64 o (J c) (J d) (J (10 * d + e)) (J (lnT T d e)) (J 0) h = some h' ∧ FR (ATo o) h h' ∧ RB h' o T 0 d (if c = 0 then w else 0) ws (if c = 0 then lnT T d e + w else if c = 1 then lnT T d e - w else lnT T d e) r dt := by
  have hb := B.2.1.vb hv
  have hl := B.2.1.ln hv
  obtain ⟨s, ⟨h1, rfl, F1, B1⟩, e1⟩ := loop_ex (body := fun (k : Int32 × Hp → Option Hp) (s : Int32 × Hp) => b_X12_makeVersion_64 o (J c) (J d) (J (10 * d + e)) (J (lnT T d e)) (fun v5q hq => k (v5q, hq)) s.1 s.2) (s := (J 0, h)) (fun i s => ∃ h', s = (J i, h') ∧ FR (ATo o) h h' ∧ RB h' o T 0 d (if c = 0 ∧ p < i then w else 0) ws (if c = 0 then (min i (lnT T d e)) + (if p < i then w else 0) else if c = 1 then (if i ≤ p then i else if i ≤ p + w then p else min i (lnT T d e) - w) else min i (lnT T d e)) r dt) (fun s => some s.2) (lnT T d e + 1) (by omega) (by omega) ⟨h, rfl, FR.refl _ _, by
      have E1 : (if c = 0 ∧ p < 0 then w else 0) = 0 := by
        rw [if_neg]
        rintro ⟨q1, q2⟩
        have := hput q1
        omega
      have E2 : (if c = 0 then (min 0 (lnT T d e)) + (if p < 0 then w else 0) else if c = 1 then (if 0 ≤ p then 0 else if 0 ≤ p + w then p else min 0 (lnT T d e) - w) else min 0 (lnT T d e)) = 0 := by
        rcases hc with k | k | k
        · have := hput k
          rw [if_pos k, if_neg (by omega)]
          omega
        · have := hcut k
          rw [if_neg (by omega), if_pos k, if_pos (by omega)]
        · rw [if_neg (by omega), if_neg (by omega)]
          omega
      rw [E1, E2]
      exact B⟩ (by
      rintro k i s i0 i1 ⟨h', rfl, F, B'⟩
      have th : TR (top h') o := B'.1
      have ep : hE h' (o + 10) 1 = p := by rw [F.e (by unfold ATo; omega), hp]
      show ∃ s', _ ∧ b_X12_makeVersion_64 o (J c) (J d) (J (10 * d + e)) (J (lnT T d e)) (fun v5q hq => k (v5q, hq)) (J i) h' = _
      have eo : ∀ K : Int32 → Hp → Option Hp, b_X12_makeVersion_64 o (J c) (J d) (J (10 * d + e)) (J (lnT T d e)) K (J i) h' = l_X12_makeVersion_74 o (J c) (J d) (J (10 * d + e)) (J (lnT T d e)) (J i) (fun hz1 => j_X12_makeVersion_121 o (J c) (J d) (J (10 * d + e)) (J (lnT T d e)) (J i) hz1 K) (J 0) h' := fun K => by
        simp (disch := omega) only [b_X12_makeVersion_64, lm8, lm2, lm1, l0, l1, l2, l3, l4, l5, l6, l7, l8, l9, l10, l11, l12, l13, l14, l15, l16, l17, l18, l19, l20, l21, l22, l23, l24, l25, l27, l31, l32, l40, l46, l48, l50, l57, l59, l63, l86, l96, l97, l100, l110, l114, l122, l127, l200, l255, l300, l319, l320, l340, l441, l456, l580, l600, l800, l886, l1206, l1526, J_add, J_sub, J_mul, J_neg, J_lt, J_le, J_eq, jT, jF, iT, iF, eT, eF, aT, aF, ite_true, ite_false, ite_not, bs]
      rw [eo]
      rcases hc with k0 | k1 | k3
      · obtain ⟨p0, p1, pw, p5, p21, pws, psp, pr⟩ := hput k0
        subst k0
        -- the words, at their place
        have A : ∃ h2, l_X12_makeVersion_74 o (J 0) (J d) (J (10 * d + e)) (J (lnT T d e)) (J i) (fun hz1 => j_X12_makeVersion_121 o (J 0) (J d) (J (10 * d + e)) (J (lnT T d e)) (J i) hz1 (fun v5q hq => k (v5q, hq))) (J 0) h' = j_X12_makeVersion_121 o (J 0) (J d) (J (10 * d + e)) (J (lnT T d e)) (J i) h2 (fun v5q hq => k (v5q, hq)) ∧ FR (ATo o) h' h2 ∧ RB h2 o T 0 d (if p < i + 1 then w else 0) ws (i + if p < i + 1 then w else 0) r dt := by
          by_cases ci : p = i
          · have B2 : RB h' o T 0 d 0 ws i r dt := by
              rw [if_neg (by omega), if_pos rfl, if_neg (by omega)] at B'
              rw [show min i (lnT T d e) + 0 = i by omega] at B'
              exact B'
            obtain ⟨h2, e2, F2, B3⟩ := B2.words (w := w) w0 (by omega) p5 pws (fun j j0 j1 => by
              rw [pr]
              unfold rPut
              rw [if_neg (by omega), if_pos (by omega)]
              omega) (fun j j0 j1 => by rw [F.e (by unfold ATo; omega), psp j j0 j1]) (fun h2 => j_X12_makeVersion_121 o (J 0) (J d) (J (10 * d + e)) (J (lnT T d e)) (J i) h2 (fun v5q hq => k (v5q, hq))) (fun (k_ : Int32 × Hp → Option Hp) (s : Int32 × Hp) => b_X12_makeVersion_74 o (J 0) (J d) (J (10 * d + e)) (J (lnT T d e)) (J i) (fun hz1 => j_X12_makeVersion_121 o (J 0) (J d) (J (10 * d + e)) (J (lnT T d e)) (J i) hz1 (fun v5q hq => k (v5q, hq))) (fun v6q hq => k_ (v6q, hq)) s.1 s.2) (fun k_ j g Fg j0 j1 => by
                show b_X12_makeVersion_74 o (J 0) (J d) (J (10 * d + e)) (J (lnT T d e)) (J i) _ _ (J j) g = _
                have tg : TR (top g) o := by rw [Fg.1]; exact th
                have e21 : gfI g o 12 21 = some (J w) := by rw [tg.f21, Fg.e (by unfold ATo; omega), F.e (by unfold ATo; omega), p21]
                have e1 : alI g (o + 10) (J 1) = some (J i) := by rw [alI_ok tg.a19 (by omega) (by omega) (by omega), Fg.e (by unfold ATo; omega), ep, ci]
                simp (disch := omega) only [b_X12_makeVersion_74, e21, tg.r19, tg.r20, e1, l0, l1, J_le, J_add, iF, eT, ite_not, if_true, bs]) (fun k_ g Fg => by
                show b_X12_makeVersion_74 o (J 0) (J d) (J (10 * d + e)) (J (lnT T d e)) (J i) _ _ (J w) g = _
                have tg : TR (top g) o := by rw [Fg.1]; exact th
                have e21 : gfI g o 12 21 = some (J w) := by rw [tg.f21, Fg.e (by unfold ATo; omega), F.e (by unfold ATo; omega), p21]
                simp (disch := omega) only [b_X12_makeVersion_74, e21, lm8, lm2, lm1, l0, l1, l2, l3, l4, l5, l6, l7, l8, l9, l10, l11, l12, l13, l14, l15, l16, l17, l18, l19, l20, l21, l22, l23, l24, l25, l27, l31, l32, l40, l46, l48, l50, l57, l59, l63, l86, l96, l97, l100, l110, l114, l122, l127, l200, l255, l300, l319, l320, l340, l441, l456, l580, l600, l800, l886, l1206, l1526, J_add, J_sub, J_mul, J_neg, J_lt, J_le, J_eq, jT, jF, iT, iF, eT, eF, aT, aF, ite_true, ite_false, ite_not, bs])
            refine ⟨h2, e2, F2, ?_⟩
            rw [if_pos (by omega)]
            exact B3
          · refine ⟨h', X12_mv74 th ep (by omega) i0 (by omega) (Or.inr ci), FR.refl _ _, ?_⟩
            by_cases cp : p < i
            · rw [if_pos ⟨rfl, cp⟩, if_pos rfl, if_pos cp, show min i (lnT T d e) + w = i + w by omega] at B'
              rw [if_pos (by omega)]
              exact B'
            · rw [if_neg (by omega), if_pos rfl, if_neg cp, show min i (lnT T d e) + 0 = i + 0 by omega] at B'
              rw [if_neg (by omega)]
              exact B'
        obtain ⟨h2, e2, F2, B2⟩ := A
        by_cases cl : i < lnT T d e
        · obtain ⟨h3, e3, F3, B3⟩ := B2.copyOne hv i0 cl (by split <;> omega) (by
            rw [pr]
            unfold rPut
            by_cases cp : p < i + 1
            · rw [if_pos cp, if_neg (by omega), if_neg (by omega), show i + w - w = i by omega]
            · rw [if_neg cp, if_pos (by omega), show i + 0 = i by omega]) (fun h3 => k (J (i + 1), h3))
          refine ⟨(J (i + 1), h3), ⟨h3, rfl, (F.trans F2).trans F3, ?_⟩, ?_⟩
          · rw [if_pos rfl, show min (i + 1) (lnT T d e) = i + 1 by omega]
            have : (if (0 : Int) = 0 ∧ p < i + 1 then w else 0) = if p < i + 1 then w else 0 := by
              by_cases cp : p < i + 1
              · rw [if_pos cp, if_pos ⟨rfl, cp⟩]
              · rw [if_neg cp, if_neg (fun q => cp q.2)]
            rw [this, show i + 1 + (if p < i + 1 then w else 0) = i + (if p < i + 1 then w else 0) + 1 by omega]
            exact B3
          · rw [e2, ← e3]
            simp (disch := omega) only [j_X12_makeVersion_121, j_X12_makeVersion_160, j_X12_makeVersion_194, lm8, lm2, lm1, l0, l1, l2, l3, l4, l5, l6, l7, l8, l9, l10, l11, l12, l13, l14, l15, l16, l17, l18, l19, l20, l21, l22, l23, l24, l25, l27, l31, l32, l40, l46, l48, l50, l57, l59, l63, l86, l96, l97, l100, l110, l114, l122, l127, l200, l255, l300, l319, l320, l340, l441, l456, l580, l600, l800, l886, l1206, l1526, J_add, J_sub, J_mul, J_neg, J_lt, J_le, J_eq, jT, jF, iT, iF, eT, eF, aT, aF, ite_true, ite_false, ite_not, bs]
        · refine ⟨(J (i + 1), h2), ⟨h2, rfl, F.trans F2, ?_⟩, ?_⟩
          · rw [if_pos rfl, show min (i + 1) (lnT T d e) = i by omega]
            have : (if (0 : Int) = 0 ∧ p < i + 1 then w else 0) = if p < i + 1 then w else 0 := by
              by_cases cp : p < i + 1
              · rw [if_pos cp, if_pos ⟨rfl, cp⟩]
              · rw [if_neg cp, if_neg (fun q => cp q.2)]
            rw [this]
            exact B2
          · rw [e2]
            simp (disch := omega) only [j_X12_makeVersion_121, j_X12_makeVersion_160, j_X12_makeVersion_194, lm8, lm2, lm1, l0, l1, l2, l3, l4, l5, l6, l7, l8, l9, l10, l11, l12, l13, l14, l15, l16, l17, l18, l19, l20, l21, l22, l23, l24, l25, l27, l31, l32, l40, l46, l48, l50, l57, l59, l63, l86, l96, l97, l100, l110, l114, l122, l127, l200, l255, l300, l319, l320, l340, l441, l456, l580, l600, l800, l886, l1206, l1526, J_add, J_sub, J_mul, J_neg, J_lt, J_le, J_eq, jT, jF, iT, iF, eT, eF, aT, aF, ite_true, ite_false, ite_not, bs]
      · obtain ⟨p0, pw, pr⟩ := hcut k1
        subst k1
        rw [X12_mv74 th ep (by omega) i0 (by omega) (Or.inl (by omega))]
        have e1 : alI h' (o + 10) (J 1) = some (J p) := by rw [alI_ok th.a19 (by omega) (by omega) (by omega), ep]
        have e2 : alI h' (o + 10) (J 2) = some (J w) := by rw [alI_ok th.a19 (by omega) (by omega) (by omega), F.e (by unfold ATo; omega), hp2 rfl]
        rw [if_neg (by omega), if_neg (by omega), if_pos rfl] at B'
        by_cases c1 : p ≤ i ∧ i < p + w
        · refine ⟨(J (i + 1), h'), ⟨h', rfl, F, ?_⟩, ?_⟩
          · rw [if_neg (by omega), if_neg (by omega), if_pos rfl, if_neg (by omega), if_pos (by omega)]
            by_cases c2 : i ≤ p
            · rw [if_pos c2, show i = p by omega] at B'
              exact B'
            · rw [if_neg c2, if_pos (by omega)] at B'
              exact B'
          · simp (disch := omega) only [j_X12_makeVersion_121, j_X12_makeVersion_160, j_X12_makeVersion_194, th.r19, e1, e2, X12_in_T, lm8, lm2, lm1, l0, l1, l2, l3, l4, l5, l6, l7, l8, l9, l10, l11, l12, l13, l14, l15, l16, l17, l18, l19, l20, l21, l22, l23, l24, l25, l27, l31, l32, l40, l46, l48, l50, l57, l59, l63, l86, l96, l97, l100, l110, l114, l122, l127, l200, l255, l300, l319, l320, l340, l441, l456, l580, l600, l800, l886, l1206, l1526, J_add, J_sub, J_mul, J_neg, J_lt, J_le, J_eq, jT, jF, iT, iF, eT, eF, aT, aF, ite_true, ite_false, ite_not, bs]
        · have ein : m_X12_in (J i) (J p) (J (p + w - 1)) h' = some (J 0) := X12_in_F (by omega) (by omega) (by omega) (by omega)
          by_cases cl : i < lnT T d e
          · obtain ⟨h3, e3, F3, B3⟩ := B'.copyOne hv i0 cl (by split <;> (try split) <;> omega) (by
              rw [pr]
              unfold rCut
              by_cases cp : i < p
              · rw [if_pos (show i ≤ p by omega), if_pos cp]
              · by_cases c3 : i ≤ p
                · rw [if_pos c3, if_neg (by omega), show i + w = i by omega]
                · rw [if_neg c3]
                  by_cases c4 : i ≤ p + w
                  · rw [if_pos c4, if_neg (by omega), show p + w = i by omega]
                  · rw [if_neg c4, if_neg (by omega), show min i (lnT T d e) - w + w = i by omega]) (fun h3 => k (J (i + 1), h3))
            refine ⟨(J (i + 1), h3), ⟨h3, rfl, F.trans F3, ?_⟩, ?_⟩
            · rw [if_neg (by omega), if_neg (by omega), if_pos rfl]
              have : (if i + 1 ≤ p then i + 1 else if i + 1 ≤ p + w then p else min (i + 1) (lnT T d e) - w) = (if i ≤ p then i else if i ≤ p + w then p else min i (lnT T d e) - w) + 1 := by
                by_cases cp : i < p
                · rw [if_pos (by omega), if_pos (by omega)]
                · rw [if_neg (by omega), if_neg (by omega)]
                  by_cases c3 : i ≤ p
                  · rw [if_pos c3]
                    omega
                  · rw [if_neg c3]
                    by_cases c4 : i ≤ p + w
                    · rw [if_pos c4]
                      omega
                    · rw [if_neg c4]
                      omega
              rw [this]
              exact B3
            · rw [← e3]
              simp (disch := omega) only [j_X12_makeVersion_121, j_X12_makeVersion_160, j_X12_makeVersion_194, th.r19, e1, e2, ein, lm8, lm2, lm1, l0, l1, l2, l3, l4, l5, l6, l7, l8, l9, l10, l11, l12, l13, l14, l15, l16, l17, l18, l19, l20, l21, l22, l23, l24, l25, l27, l31, l32, l40, l46, l48, l50, l57, l59, l63, l86, l96, l97, l100, l110, l114, l122, l127, l200, l255, l300, l319, l320, l340, l441, l456, l580, l600, l800, l886, l1206, l1526, J_add, J_sub, J_mul, J_neg, J_lt, J_le, J_eq, jT, jF, iT, iF, eT, eF, aT, aF, ite_true, ite_false, ite_not, bs]
          · refine ⟨(J (i + 1), h'), ⟨h', rfl, F, ?_⟩, ?_⟩
            · rw [if_neg (by omega), if_neg (by omega), if_pos rfl]
              have : (if i + 1 ≤ p then i + 1 else if i + 1 ≤ p + w then p else min (i + 1) (lnT T d e) - w) = (if i ≤ p then i else if i ≤ p + w then p else min i (lnT T d e) - w) := by
                rw [if_neg (by omega), if_neg (by omega)]
                by_cases c3 : i ≤ p
                · rw [if_pos c3]
                  omega
                · rw [if_neg c3]
                  by_cases c4 : i ≤ p + w
                  · rw [if_pos c4]
                    omega
                  · rw [if_neg c4]
                    omega
              rw [this]
              exact B'
            · simp (disch := omega) only [j_X12_makeVersion_121, j_X12_makeVersion_160, j_X12_makeVersion_194, th.r19, e1, e2, ein, lm8, lm2, lm1, l0, l1, l2, l3, l4, l5, l6, l7, l8, l9, l10, l11, l12, l13, l14, l15, l16, l17, l18, l19, l20, l21, l22, l23, l24, l25, l27, l31, l32, l40, l46, l48, l50, l57, l59, l63, l86, l96, l97, l100, l110, l114, l122, l127, l200, l255, l300, l319, l320, l340, l441, l456, l580, l600, l800, l886, l1206, l1526, J_add, J_sub, J_mul, J_neg, J_lt, J_le, J_eq, jT, jF, iT, iF, eT, eF, aT, aF, ite_true, ite_false, ite_not, bs]
      · have pr := hbck k3
        subst k3
        rw [X12_mv74 th ep (by omega) i0 (by omega) (Or.inl (by omega))]
        rw [if_neg (by omega), if_neg (by omega), if_neg (by omega)] at B'
        by_cases cl : i < lnT T d e
        · obtain ⟨h3, e3, F3, B3⟩ := B'.copyOne hv i0 cl (by omega) (by rw [pr, show min i (lnT T d e) = i by omega]) (fun h3 => k (J (i + 1), h3))
          refine ⟨(J (i + 1), h3), ⟨h3, rfl, F.trans F3, ?_⟩, ?_⟩
          · rw [if_neg (by omega), if_neg (by omega), if_neg (by omega), show min (i + 1) (lnT T d e) = min i (lnT T d e) + 1 by omega]
            exact B3
          · rw [← e3]
            simp (disch := omega) only [j_X12_makeVersion_121, j_X12_makeVersion_160, j_X12_makeVersion_194, lm8, lm2, lm1, l0, l1, l2, l3, l4, l5, l6, l7, l8, l9, l10, l11, l12, l13, l14, l15, l16, l17, l18, l19, l20, l21, l22, l23, l24, l25, l27, l31, l32, l40, l46, l48, l50, l57, l59, l63, l86, l96, l97, l100, l110, l114, l122, l127, l200, l255, l300, l319, l320, l340, l441, l456, l580, l600, l800, l886, l1206, l1526, J_add, J_sub, J_mul, J_neg, J_lt, J_le, J_eq, jT, jF, iT, iF, eT, eF, aT, aF, ite_true, ite_false, ite_not, bs]
        · refine ⟨(J (i + 1), h'), ⟨h', rfl, F, ?_⟩, ?_⟩
          · rw [if_neg (by omega), if_neg (by omega), if_neg (by omega), show min (i + 1) (lnT T d e) = min i (lnT T d e) by omega]
            exact B'
          · simp (disch := omega) only [j_X12_makeVersion_121, j_X12_makeVersion_160, j_X12_makeVersion_194, lm8, lm2, lm1, l0, l1, l2, l3, l4, l5, l6, l7, l8, l9, l10, l11, l12, l13, l14, l15, l16, l17, l18, l19, l20, l21, l22, l23, l24, l25, l27, l31, l32, l40, l46, l48, l50, l57, l59, l63, l86, l96, l97, l100, l110, l114, l122, l127, l200, l255, l300, l319, l320, l340, l441, l456, l580, l600, l800, l886, l1206, l1526, J_add, J_sub, J_mul, J_neg, J_lt, J_le, J_eq, jT, jF, iT, iF, eT, eF, aT, aF, ite_true, ite_false, ite_not, bs]) (by
      rintro k s ⟨h', rfl, F, -⟩
      show b_X12_makeVersion_64 o (J c) (J d) (J (10 * d + e)) (J (lnT T d e)) _ (J (lnT T d e + 1)) h' = _
      simp (disch := omega) only [b_X12_makeVersion_64, lm8, lm2, lm1, l0, l1, l2, l3, l4, l5, l6, l7, l8, l9, l10, l11, l12, l13, l14, l15, l16, l17, l18, l19, l20, l21, l22, l23, l24, l25, l27, l31, l32, l40, l46, l48, l50, l57, l59, l63, l86, l96, l97, l100, l110, l114, l122, l127, l200, l255, l300, l319, l320, l340, l441, l456, l580, l600, l800, l886, l1206, l1526, J_add, J_sub, J_mul, J_neg, J_lt, J_le, J_eq, jT, jF, iT, iF, eT, eF, aT, aF, ite_true, ite_false, ite_not, bs])
  refine ⟨h1, e1, F1, ?_⟩
  have M1 : (if c = 0 ∧ p < lnT T d e + 1 then w else 0) = if c = 0 then w else 0 := by
    by_cases c0 : c = 0
    · have := hput c0
      rw [if_pos c0, if_pos ⟨c0, by omega⟩]
    · rw [if_neg c0, if_neg (fun q => c0 q.1)]
  have M2 : (if c = 0 then (min (lnT T d e + 1) (lnT T d e)) + (if p < lnT T d e + 1 then w else 0) else if c = 1 then (if lnT T d e + 1 ≤ p then lnT T d e + 1 else if lnT T d e + 1 ≤ p + w then p else min (lnT T d e + 1) (lnT T d e) - w) else min (lnT T d e + 1) (lnT T d e)) = if c = 0 then lnT T d e + w else if c = 1 then lnT T d e - w else lnT T d e := by
    by_cases c0 : c = 0
    · have := hput c0
      rw [if_pos c0, if_pos c0, if_pos (by omega)]
      omega
    · rw [if_neg c0, if_neg c0]
      by_cases c1 : c = 1
      · have := hcut c1
        rw [if_pos c1, if_pos c1, if_neg (by omega), if_neg (by omega)]
        omega
      · rw [if_neg c1, if_neg c1]
        omega
  rw [M1, M2] at B1
  exact B1
end TV
