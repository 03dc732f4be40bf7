/-! PURE PART: the reference lays its words -/
def ALw (o b k : Nat) : Prop := (b = o ∧ k = 25) ∨ b = o + 12
theorem RM.frW {h h' : Hp} {o : Nat} {T : Int → Int} (H : RM h o T) (F : FR (ALw o) h h') : RM h' o T := by
  refine H.frame F ?_ (fun k => ?_) <;> · unfold ALw; omega
/-- the words are laid -/
def RWn (h : Hp) (o : Nat) (T : Int → Int) (n : Nat) : Prop := hE h o 25 = wcN T n ∧ ∀ i, 0 ≤ i → i < wcN T n → hE h (o + 12) i = wfN T n i
def RW (h : Hp) (o : Nat) (T : Int → Int) : Prop := RWn h o T (T 5).toNat
section LY
variable {h : Hp} {o : Nat} {T : Int → Int}
theorem X12_widened_ok {w : Int} (hw : wrg w) : m_X12_widened (J w) h = some (J (wide w)) := by
  obtain ⟨h1, h2, h3⟩ := hw
  have step : ∀ (k : Int32 → Option Int32) (a : Int), 0 ≤ a → a < 19683 → b_X12_widened_2 h (fun q => k q) (J a) = k (J (a * 27)) := by
    intro k a a0 a1
    simp (disch := omega) only [b_X12_widened_2, l19683, lm8, lm2, lm1, l0, l1, l2, l3, l4, l5, l6, l7, l8, l9, l10, l11, l12, l13, l14, l15, l16, l17, l18, l19, l20, l21, l22, l23, l24, l25, l27, l31, l32, l40, l46, l48, l50, l57, l59, l63, l86, l96, l97, l100, l110, l114, l122, l127, l200, l255, l300, l319, l320, l340, l441, l456, l580, l600, l800, l886, l1206, l1526, J_add, J_sub, J_mul, J_neg, J_lt, J_le, J_eq, jT, jF, iT, iF, eT, eF, aT, aF, ite_true, ite_false, ite_not, bs]
  have stop : ∀ (k : Int32 → Option Int32) (a : Int), 19683 ≤ a → a < 2147483648 → b_X12_widened_2 h (fun q => k q) (J a) = some (J a) := by
    intro k a a0 a1
    simp (disch := omega) only [b_X12_widened_2, l19683, lm8, lm2, lm1, l0, l1, l2, l3, l4, l5, l6, l7, l8, l9, l10, l11, l12, l13, l14, l15, l16, l17, l18, l19, l20, l21, l22, l23, l24, l25, l27, l31, l32, l40, l46, l48, l50, l57, l59, l63, l86, l96, l97, l100, l110, l114, l122, l127, l200, l255, l300, l319, l320, l340, l441, l456, l580, l600, l800, l886, l1206, l1526, J_add, J_sub, J_mul, J_neg, J_lt, J_le, J_eq, jT, jF, iT, iF, eT, eF, aT, aF, ite_true, ite_false, ite_not, bs]
  have gen : ∀ (n : Int), 0 ≤ n → n ≤ 3 → (∀ i, 0 ≤ i → i < n → (if i = 0 then w else if i = 1 then w * 27 else w * 729) < 19683) → 19683 ≤ (if n = 0 then w else if n = 1 then w * 27 else if n = 2 then w * 729 else w * 19683) → (if n = 0 then w else if n = 1 then w * 27 else if n = 2 then w * 729 else w * 19683) < 2147483648 → m_X12_widened (J w) h = some (J (if n = 0 then w else if n = 1 then w * 27 else if n = 2 then w * 729 else w * 19683)) := by
    intro n n0 n1 hs he he2
    unfold m_X12_widened l_X12_widened_2
    refine loop_int (fun i => J (if i = 0 then w else if i = 1 then w * 27 else if i = 2 then w * 729 else w * 19683)) n n0 (by omega) rfl (fun k i hi hi2 => ?_) (fun k => stop k _ he he2)
    have hsi := hs i hi hi2
    have : i = 0 ∨ i = 1 ∨ i = 2 := by omega
    rcases this with rfl | rfl | rfl
    · exact step k w (by omega) hsi
    · refine (step k (w * 27) (by omega) hsi).trans ?_
      rw [show w * 27 * 27 = w * 729 by omega]
      rfl
    · refine (step k (w * 729) (by omega) hsi).trans ?_
      rw [show w * 729 * 27 = w * 19683 by omega]
      rfl
  unfold wide
  by_cases c1 : w < 27
  · rw [if_pos c1]
    refine gen 3 (by omega) (by omega) (fun i i0 i1 => ?_) (by show 19683 ≤ w * 19683; omega) (by show w * 19683 < 2147483648; omega)
    split
    · omega
    · split <;> omega
  · rw [if_neg c1]
    by_cases c2 : w < 729
    · rw [if_pos c2]
      refine gen 2 (by omega) (by omega) (fun i i0 i1 => ?_) (by show 19683 ≤ w * 729; omega) (by show w * 729 < 2147483648; omega)
      split
      · omega
      · split <;> omega
    · rw [if_neg c2]
      by_cases c3 : w < 19683
      · rw [if_pos c3]
        refine gen 1 (by omega) (by omega) (fun i i0 i1 => ?_) (by show 19683 ≤ w * 27; omega) (by show w * 27 < 2147483648; omega)
        rw [if_pos (by omega)]
        exact c3
      · rw [if_neg c3]
        exact gen 0 (by omega) (by omega) (fun i i0 i1 => by omega) (by show 19683 ≤ w; omega) (by show w < 2147483648; omega)
theorem RM.layPlace (H : RM h o T) {c w : Int} {f : Int → Int} (hc : hE h o 25 = c) (c0 : 0 ≤ c) (c1 : c ≤ 319) (hf : ∀ i, 0 ≤ i → i < c → hE h (o + 12) i = f i ∧ wrg (f i)) (hw : wrg w) (t : Int32) (K : Int32 → Option Hp) : l_X12_layWords_23 o t (J w) h K (J 0) = K (J (poW c f w)) := by
  have hr := wide_rg hw.1 hw.2.1
  unfold l_X12_layWords_23 poW
  have e2 : gfI h o 12 25 = some (J c) := by rw [H.1.f25, hc]
  refine loop_find (fun i => J i) c (fun i => decide (wide w ≤ wide (f i))) (fun i => K (J (if i = -1 then c else i))) c0 (by omega) rfl (fun k i hi hi2 hp => ?_) (fun k i hi hi2 hp => ?_) (fun k => ?_)
  · have h1 := hf i hi hi2
    have h2 := wide_rg h1.2.1 h1.2.2.1
    have e3 : alI h (o + 12) (J i) = some (J (f i)) := by rw [alI_ok H.1.a26 hi (by omega) (by omega), h1.1]
    have hp2 : ¬ wide w ≤ wide (f i) := by simpa using hp
    simp (disch := omega) only [b_X12_layWords_23, H.1.r26, e2, e3, X12_widened_ok h1.2, X12_widened_ok hw, lm8, lm2, lm1, l0, l1, l2, l3, l4, l5, l6, l7, l8, l9, l10, l11, l12, l13, l14, l15, l16, l17, l18, l19, l20, l21, l22, l23, l24, l25, l27, l31, l32, l40, l46, l48, l50, l57, l59, l63, l86, l96, l97, l100, l110, l114, l122, l127, l200, l255, l300, l319, l320, l340, l441, l456, l580, l600, l800, l886, l1206, l1526, J_add, J_sub, J_mul, J_neg, J_lt, J_le, J_eq, jT, jF, iT, iF, eT, eF, aT, aF, ite_true, ite_false, ite_not, bs]
  · have h1 := hf i hi hi2
    have h2 := wide_rg h1.2.1 h1.2.2.1
    have e3 : alI h (o + 12) (J i) = some (J (f i)) := by rw [alI_ok H.1.a26 hi (by omega) (by omega), h1.1]
    have hp2 : wide w ≤ wide (f i) := by simpa using hp
    rw [if_neg (by omega)]
    simp (disch := omega) only [b_X12_layWords_23, H.1.r26, e2, e3, X12_widened_ok h1.2, X12_widened_ok hw, lm8, lm2, lm1, l0, l1, l2, l3, l4, l5, l6, l7, l8, l9, l10, l11, l12, l13, l14, l15, l16, l17, l18, l19, l20, l21, l22, l23, l24, l25, l27, l31, l32, l40, l46, l48, l50, l57, l59, l63, l86, l96, l97, l100, l110, l114, l122, l127, l200, l255, l300, l319, l320, l340, l441, l456, l580, l600, l800, l886, l1206, l1526, J_add, J_sub, J_mul, J_neg, J_lt, J_le, J_eq, jT, jF, iT, iF, eT, eF, aT, aF, ite_true, ite_false, ite_not, bs]
  · rw [if_pos rfl]
    simp (disch := omega) only [b_X12_layWords_23, e2, lm8, lm2, lm1, l0, l1, l2, l3, l4, l5, l6, l7, l8, l9, l10, l11, l12, l13, l14, l15, l16, l17, l18, l19, l20, l21, l22, l23, l24, l25, l27, l31, l32, l40, l46, l48, l50, l57, l59, l63, l86, l96, l97, l100, l110, l114, l122, l127, l200, l255, l300, l319, l320, l340, l441, l456, l580, l600, l800, l886, l1206, l1526, J_add, J_sub, J_mul, J_neg, J_lt, J_le, J_eq, jT, jF, iT, iF, eT, eF, aT, aF, ite_true, ite_false, ite_not, bs]
/-- a word comes between -/
theorem RM.layShift (H : RM h o T) {k c : Int} (hc : hE h o 25 = c) (k0 : 0 ≤ k) (k1 : k ≤ c) (c1 : c < 320) (t w : Int32) (K : Hp → Option Hp) : ∃ h', l_X12_layWords_84 o t w (J k) (J 0) K (J c) h = K h' ∧ FR (ALw o) h h' ∧ hE h' o 25 = c ∧ (∀ i, 0 ≤ i → hE h' (o + 12) i = if k < i ∧ i ≤ c then hE h (o + 12) (i - 1) else hE h (o + 12) i) := by
  unfold l_X12_layWords_84
  obtain ⟨s, ⟨h1, rfl, F1, f2, p1⟩, e⟩ := loop_ex (body := fun (k_ : Int32 × Hp → Option Hp) (s : Int32 × Hp) => b_X12_layWords_84 o t w (J k) (J 0) K (fun v5q hq => k_ (v5q, hq)) s.1 s.2) (s := (J c, h)) (fun j s => ∃ h', s = (J (c - j), h') ∧ FR (ALw o) h h' ∧ hE h' o 25 = c ∧ (∀ i, 0 ≤ i → hE h' (o + 12) i = if c - j < i ∧ i ≤ c then hE h (o + 12) (i - 1) else hE h (o + 12) i)) (fun s => K s.2) (c - k) (by omega) (by omega) ⟨h, by rw [show c - 0 = c by omega], FR.refl _ _, hc, fun i _ => (if_neg (by omega)).symm⟩ (by
      rintro K1 j s j0 j1 ⟨h', rfl, F, f2, p1⟩
      have G := H.frW F
      refine ⟨(J (c - (j + 1)), wE h' (o + 12) (c - j) (hE h' (o + 12) (c - j - 1))), ⟨_, rfl, F.trans (FR.wE (by unfold ALw; omega)), ?_, fun i i0 => ?_⟩, ?_⟩
      · rw [hE_wE_ne (by omega), f2]
      · rw [hE_wE (by omega) i0 (hE_rg _ _ _).1 (hE_rg _ _ _).2]
        by_cases hi : i = c - j
        · rw [if_pos ⟨rfl, hi⟩, p1 _ (by omega), if_neg (by omega), if_pos (by omega), hi]
        · rw [if_neg (fun q => hi q.2), p1 i i0]
          by_cases hq : c - j < i ∧ i ≤ c
          · rw [if_pos hq, if_pos (by omega)]
          · rw [if_neg hq, if_neg (by omega)]
      · rw [show c - (j + 1) = c - j + -1 by omega]
        show b_X12_layWords_84 o t w (J k) (J 0) K (fun v5q hq => K1 (v5q, hq)) (J (c - j)) h' = _
        simp (disch := omega) only [b_X12_layWords_84, G.1.r26, alI_ok G.1.a26, asI_ok G.1.a26, lm8, lm2, lm1, l0, l1, l2, l3, l4, l5, l6, l7, l8, l9, l10, l11, l12, l13, l14, l15, l16, l17, l18, l19, l20, l21, l22, l23, l24, l25, l27, l31, l32, l40, l46, l48, l50, l57, l59, l63, l86, l96, l97, l100, l110, l114, l122, l127, l200, l255, l300, l319, l320, l340, l441, l456, l580, l600, l800, l886, l1206, l1526, J_add, J_sub, J_mul, J_neg, J_lt, J_le, J_eq, jT, jF, iT, iF, eT, eF, aT, aF, ite_true, ite_false, ite_not, bs]) (by
      rintro K1 s ⟨h', rfl, -⟩
      show b_X12_layWords_84 o t w (J k) (J 0) K (fun v5q hq => K1 (v5q, hq)) (J (c - (c - k))) h' = _
      simp (disch := omega) only [b_X12_layWords_84, lm8, lm2, lm1, l0, l1, l2, l3, l4, l5, l6, l7, l8, l9, l10, l11, l12, l13, l14, l15, l16, l17, l18, l19, l20, l21, l22, l23, l24, l25, l27, l31, l32, l40, l46, l48, l50, l57, l59, l63, l86, l96, l97, l100, l110, l114, l122, l127, l200, l255, l300, l319, l320, l340, l441, l456, l580, l600, l800, l886, l1206, l1526, J_add, J_sub, J_mul, J_neg, J_lt, J_le, J_eq, jT, jF, iT, iF, eT, eF, aT, aF, ite_true, ite_false, ite_not, bs])
  refine ⟨h1, e, F1, f2, fun i i0 => ?_⟩
  rw [p1 i i0, show c - (c - k) = k by omega]
theorem RM.layWords (H : RM h o T) : ∃ h', m_X12_layWords o h = some h' ∧ FR (ALw o) h h' ∧ RW h' o T := by
  have h5 := H.wf.n5
  have e0 : pfI h o 12 25 (J 0) = some (wE h o 25 0) := H.1.p25
  have F0 : FR (ALw o) h (wE h o 25 0) := FR.wE (Or.inl ⟨rfl, rfl⟩)
  unfold m_X12_layWords
  rw [l0, e0, bs]
  unfold l_X12_layWords_7
  obtain ⟨s, ⟨h1, rfl, F1, C1⟩, e⟩ := loop_ex (body := fun (k : Int32 × Hp → Option Hp) (s : Int32 × Hp) => b_X12_layWords_7 o (fun v1q hq => k (v1q, hq)) s.1 s.2) (s := (J 0, wE h o 25 0)) (fun t s => ∃ h', s = (J t, h') ∧ FR (ALw o) h h' ∧ RWn h' o T t.toNat) (fun s => some s.2) (T 5) h5.1 (by omega) ⟨_, rfl, F0, by rw [hE_wE (by omega) (by omega) (by omega) (by omega), if_pos ⟨rfl, rfl⟩]; rfl, fun i i0 i1 => absurd i1 (by show ¬ i < 0; omega)⟩ (by
      rintro K t s t0 t1 ⟨h', rfl, F, hc, hcell⟩
      have G := H.frW F
      have hnT : ((t.toNat : Nat) : Int) = t := Int.toNat_of_nonneg t0
      have hw : wrg (wdT T t) := by
        have := gT_wrg H.wf t.toNat (by omega)
        unfold gT at this
        rw [hnT] at this
        exact this
      have hG := GWl_T H.wf (n := t.toNat) (by omega)
      have hcr := hG.1
      have hw1 := hw.1
      have hw2 := hw.2.1
      have ep := fun K a => G.layPlace (w := wdT T t) (f := wfN T t.toNat) hc hcr.1 (by omega) (fun i i0 i1 => ⟨hcell i i0 i1, wf_wrg H.wf (by omega) i0 i1⟩) hw a K
      have hp := poW_spec (f := wfN T t.toNat) (w := wdT T t) hcr.1
      have ec : gfI h' o 12 25 = some (J (wcN T t.toNat)) := by rw [G.1.f25, hc]
      have hhi := haW_iff (w := wdT T t) hcr.1 hG.2.2.2
      generalize hpd : poW (wcN T t.toNat) (wfN T t.toNat) (wdT T t) = p at *
      rw [show (t + 1).toNat = t.toNat + 1 by omega]
      cases hh : haW (wcN T t.toNat) (wfN T t.toNat) (wdT T t)
      · have hno : ∀ i, 0 ≤ i → i < wcN T t.toNat → wfN T t.toNat i ≠ wdT T t := fun i i0 i1 q => by
          rw [hhi.mpr ⟨i, i0, i1, q⟩] at hh
          cases hh
        obtain ⟨h2, e2, F2, c2, l2⟩ := G.layShift hc hp.1 hp.2.1 (by omega) (J t) (J (wdT T t)) (fun hz2 => j_X12_layWords_117 o (J t) (J (wdT T t)) (J p) (J 0) hz2 (fun v1q hq => K (v1q, hq)))
        have G2 := G.frW F2
        have wl := wl_F (T := T) (n := t.toNat) (by rw [hnT]; exact hh)
        rw [hnT, hpd] at wl
        have G3 : TR (top (wE h2 (o + 12) p (wdT T t))) o := G2.1
        have ec3 : gfI (wE h2 (o + 12) p (wdT T t)) o 12 25 = some (J (wcN T t.toNat)) := by rw [G3.f25, hE_wE_ne (by omega), c2]
        have ep3 : ∀ z : Int, pfI (wE h2 (o + 12) p (wdT T t)) o 12 25 (J z) = some (wE (wE h2 (o + 12) p (wdT T t)) o 25 z) := fun z => G3.p25
        refine ⟨(J (t + 1), wE (wE h2 (o + 12) p (wdT T t)) o 25 (wcN T t.toNat + 1)), ⟨_, rfl, (F.trans F2).trans ((FR.wE (by unfold ALw; omega)).trans (FR.wE (Or.inl ⟨rfl, rfl⟩))), ?_, fun i i0 i1 => ?_⟩, ?_⟩
        · rw [hE_wE (by omega) (by omega) (by omega) (by omega), if_pos ⟨rfl, rfl⟩, wl.1]
        · rw [wl.1] at i1
          rw [hE_wE_ne (by omega), hE_wE hp.1 i0 (by omega) (by omega), wl.2]
          unfold shW
          by_cases q1 : i < p
          · rw [if_neg (by omega), if_pos q1, l2 i i0, if_neg (by omega)]
            exact hcell i i0 (by omega)
          · by_cases q2 : i = p
            · rw [if_pos ⟨rfl, q2⟩, if_neg q1, if_pos q2]
            · rw [if_neg (fun z => q2 z.2), if_neg q1, if_neg q2, l2 i i0, if_pos (by omega)]
              exact hcell (i - 1) (by omega) (by omega)
        · show b_X12_layWords_7 o (fun v1q hq => K (v1q, hq)) (J t) h' = _
          have e117 : j_X12_layWords_117 o (J t) (J (wdT T t)) (J p) (J 0) h2 (fun v1q hq => K (v1q, hq)) = K (J (t + 1), wE (wE h2 (o + 12) p (wdT T t)) o 25 (wcN T t.toNat + 1)) := by
            simp (disch := omega) only [j_X12_layWords_117, j_X12_layWords_137, j_X12_layWords_153, G2.1.r26, asI_ok G2.1.a26, ec3, ep3, lm8, lm2, lm1, l0, l1, l2, l3, l4, l5, l6, l7, l8, l9, l10, l11, l12, l13, l14, l15, l16, l17, l18, l19, l20, l21, l22, l23, l24, l25, l27, l31, l32, l40, l46, l48, l50, l57, l59, l63, l86, l96, l97, l100, l110, l114, l122, l127, l200, l255, l300, l319, l320, l340, l441, l456, l580, l600, l800, l886, l1206, l1526, J_add, J_sub, J_mul, J_neg, J_lt, J_le, J_eq, jT, jF, iT, iF, eT, eF, aT, aF, ite_true, ite_false, ite_not, bs]
          have e76 : j_X12_layWords_76 o (J t) (J (wdT T t)) (J p) (J 0) h' (fun v1q hq => K (v1q, hq)) = K (J (t + 1), wE (wE h2 (o + 12) p (wdT T t)) o 25 (wcN T t.toNat + 1)) := by
            unfold j_X12_layWords_76
            rw [ec, bs]
            exact e2.trans e117
          by_cases hpc : p < wcN T t.toNat
          · have hwp := wf_wrg H.wf (n := t.toNat) (by omega) hp.1 hpc
            have hwp1 := hwp.1
            have hwp2 := hwp.2.1
            have hne := hno p hp.1 hpc
            have e3 : alI h' (o + 12) (J p) = some (J (wfN T t.toNat p)) := by rw [alI_ok G.1.a26 hp.1 (by omega) (by omega), hcell p hp.1 hpc]
            simp (disch := omega) only [b_X12_layWords_7, j_X12_layWords_53, rc_ok G.tag, G.f24, G.wordOf, G.1.r26, ep, ec, e3, e76, lm8, lm2, lm1, l0, l1, l2, l3, l4, l5, l6, l7, l8, l9, l10, l11, l12, l13, l14, l15, l16, l17, l18, l19, l20, l21, l22, l23, l24, l25, l27, l31, l32, l40, l46, l48, l50, l57, l59, l63, l86, l96, l97, l100, l110, l114, l122, l127, l200, l255, l300, l319, l320, l340, l441, l456, l580, l600, l800, l886, l1206, l1526, J_add, J_sub, J_mul, J_neg, J_lt, J_le, J_eq, jT, jF, iT, iF, eT, eF, aT, aF, ite_true, ite_false, ite_not, bs]
          · simp (disch := omega) only [b_X12_layWords_7, j_X12_layWords_53, rc_ok G.tag, G.f24, G.wordOf, ep, ec, e76, lm8, lm2, lm1, l0, l1, l2, l3, l4, l5, l6, l7, l8, l9, l10, l11, l12, l13, l14, l15, l16, l17, l18, l19, l20, l21, l22, l23, l24, l25, l27, l31, l32, l40, l46, l48, l50, l57, l59, l63, l86, l96, l97, l100, l110, l114, l122, l127, l200, l255, l300, l319, l320, l340, l441, l456, l580, l600, l800, l886, l1206, l1526, J_add, J_sub, J_mul, J_neg, J_lt, J_le, J_eq, jT, jF, iT, iF, eT, eF, aT, aF, ite_true, ite_false, ite_not, bs]
      · have hpw : p < wcN T t.toNat ∧ wfN T t.toNat p = wdT T t := by
          unfold haW at hh
          rw [Bool.and_eq_true, decide_eq_true_eq, decide_eq_true_eq, hpd] at hh
          exact hh
        have hpw1 := hpw.1
        have wl := wl_T (T := T) (n := t.toNat) (by rw [hnT]; exact hh)
        have G3 : TR (top (wE h' (o + 12) p (wdT T t))) o := G.1
        have ec3 : gfI (wE h' (o + 12) p (wdT T t)) o 12 25 = some (J (wcN T t.toNat)) := by rw [G3.f25, hE_wE_ne (by omega), hc]
        have ep3 : ∀ z : Int, pfI (wE h' (o + 12) p (wdT T t)) o 12 25 (J z) = some (wE (wE h' (o + 12) p (wdT T t)) o 25 z) := fun z => G3.p25
        have e3 : alI h' (o + 12) (J p) = some (J (wdT T t)) := by rw [alI_ok G.1.a26 hp.1 (by omega) (by omega), hcell p hp.1 hpw.1, hpw.2]
        refine ⟨(J (t + 1), wE (wE h' (o + 12) p (wdT T t)) o 25 (wcN T t.toNat + 0)), ⟨_, rfl, F.trans ((FR.wE (by unfold ALw; omega)).trans (FR.wE (Or.inl ⟨rfl, rfl⟩))), ?_, fun i i0 i1 => ?_⟩, ?_⟩
        · rw [hE_wE (by omega) (by omega) (by omega) (by omega), if_pos ⟨rfl, rfl⟩, wl.1, Int.add_zero]
        · rw [wl.1] at i1
          rw [hE_wE_ne (by omega), hE_wE hp.1 i0 (by omega) (by omega), wl.2]
          by_cases q2 : i = p
          · rw [if_pos ⟨rfl, q2⟩, q2, hpw.2]
          · rw [if_neg (fun z => q2 z.2)]
            exact hcell i i0 i1
        · show b_X12_layWords_7 o (fun v1q hq => K (v1q, hq)) (J t) h' = _
          have e84 : ∀ K2 : Hp → Option Hp, l_X12_layWords_84 o (J t) (J (wdT T t)) (J p) (J 1) K2 (J (wcN T t.toNat)) h' = K2 h' := by
            intro K2
            unfold l_X12_layWords_84
            refine loop_int (fun _ => (J (wcN T t.toNat), h')) 0 (by omega) (by omega) rfl (fun k i hi hi2 => by omega) (fun k => ?_)
            show b_X12_layWords_84 o (J t) (J (wdT T t)) (J p) (J 1) K2 (fun v5q hq => k (v5q, hq)) (J (wcN T t.toNat)) h' = _
            simp (disch := omega) only [b_X12_layWords_84, lm8, lm2, lm1, l0, l1, l2, l3, l4, l5, l6, l7, l8, l9, l10, l11, l12, l13, l14, l15, l16, l17, l18, l19, l20, l21, l22, l23, l24, l25, l27, l31, l32, l40, l46, l48, l50, l57, l59, l63, l86, l96, l97, l100, l110, l114, l122, l127, l200, l255, l300, l319, l320, l340, l441, l456, l580, l600, l800, l886, l1206, l1526, J_add, J_sub, J_mul, J_neg, J_lt, J_le, J_eq, jT, jF, iT, iF, eT, eF, aT, aF, ite_true, ite_false, ite_not, bs]
          simp (disch := omega) only [b_X12_layWords_7, j_X12_layWords_53, j_X12_layWords_76, j_X12_layWords_117, j_X12_layWords_137, j_X12_layWords_153, rc_ok G.tag, G.f24, G.wordOf, G.1.r26, asI_ok G.1.a26, ep, ec, e3, e84, ec3, ep3, lm8, lm2, lm1, l0, l1, l2, l3, l4, l5, l6, l7, l8, l9, l10, l11, l12, l13, l14, l15, l16, l17, l18, l19, l20, l21, l22, l23, l24, l25, l27, l31, l32, l40, l46, l48, l50, l57, l59, l63, l86, l96, l97, l100, l110, l114, l122, l127, l200, l255, l300, l319, l320, l340, l441, l456, l580, l600, l800, l886, l1206, l1526, J_add, J_sub, J_mul, J_neg, J_lt, J_le, J_eq, jT, jF, iT, iF, eT, eF, aT, aF, ite_true, ite_false, ite_not, bs]) (by
      rintro K s ⟨h', rfl, F, -⟩
      have G := H.frW F
      show b_X12_layWords_7 o (fun v1q hq => K (v1q, hq)) (J (T 5)) h' = _
      simp (disch := omega) only [b_X12_layWords_7, G.f24, lm8, lm2, lm1, l0, l1, l2, l3, l4, l5, l6, l7, l8, l9, l10, l11, l12, l13, l14, l15, l16, l17, l18, l19, l20, l21, l22, l23, l24, l25, l27, l31, l32, l40, l46, l48, l50, l57, l59, l63, l86, l96, l97, l100, l110, l114, l122, l127, l200, l255, l300, l319, l320, l340, l441, l456, l580, l600, l800, l886, l1206, l1526, J_add, J_sub, J_mul, J_neg, J_lt, J_le, J_eq, jT, jF, iT, iF, eT, eF, aT, aF, ite_true, ite_false, ite_not, bs])
  exact ⟨h1, e, F1, C1⟩
end LY
