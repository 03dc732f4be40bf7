/-! PURE PART: the class lists its words -/
theorem loop_ex {σ R : Type} {body : (σ → Option R) → σ → Option R} {s : σ} (P : Int → σ → Prop) (E : σ → Option R) (n : Int) (h0 : 0 ≤ n) (hn : n < 4294967296) (h : P 0 s) (hs : ∀ k i s, 0 ≤ i → i < n → P i s → ∃ s', P (i + 1) s' ∧ body k s = k s') (he : ∀ k s, P n s → body k s = E s) : ∃ s', P n s' ∧ loopK FUEL body s = E s' := by
  have key : ∀ j : Nat, ∀ (i : Int) (s : σ) (fuel : Nat), 0 ≤ i → i + j = n → j < fuel → P i s → ∃ s', P n s' ∧ loopK fuel body s = E s' := by
    intro j
    induction j with
    | zero =>
      intro i s fuel hi hin hf hP
      obtain ⟨f, rfl⟩ : ∃ f, fuel = f + 1 := ⟨fuel - 1, by omega⟩
      have : i = n := by omega
      subst this
      exact ⟨s, hP, he _ s hP⟩
    | succ j ih =>
      intro i s fuel hi hin hf hP
      obtain ⟨f, rfl⟩ : ∃ f, fuel = f + 1 := ⟨fuel - 1, by omega⟩
      obtain ⟨s', hP', e⟩ := hs (loopK f body) i s hi (by omega) hP
      obtain ⟨s2, h2, e2⟩ := ih (i + 1) s' f (by omega) (by omega) (by omega) hP'
      refine ⟨s2, h2, ?_⟩
      show body (loopK f body) s = E s2
      rw [e]
      exact e2
  exact key n.toNat 0 s FUEL (Int.le_refl 0) (by omega) (lt_FUEL (by omega)) h
def AWd (o b k : Nat) : Prop := (b = o ∧ k = 2) ∨ b = o + 8 ∨ b = o + 9
theorem CA.frW {h h' : Hp} {o : Nat} {T : Int → Int} (H : CA h o T) (F : FR (AWd o) h h') : CA h' o T := by
  refine H.frame F ?_ ?_ (fun k => ?_) (fun k => ?_) (fun k => ?_) (fun k => ?_) (fun k => ?_) (fun k => ?_) <;> · unfold AWd; omega
section LW
variable {h : Hp} {o : Nat} {T : Int → Int}
theorem CA.spell (H : CA h o T) {t : Int} (h0 : 0 ≤ t) (h1 : t < T 5) : m_X5_at (o + 5) (J t) h = some (J (wide (wdT T t))) := by
  have h5 := H.wf.n5
  rw [X5_at_ok H.1.a7 (by omega) (by omega) (by omega), atE_in h0 (by omega), (H.2.2.2.2.2.2.2 t h0 h1).1]
theorem CA.placeOfWord (H : CA h o T) {c w : Int} {f : Int → Int} (hc : hE h o 2 = c) (c0 : 0 ≤ c) (c1 : c ≤ 340) (hf : ∀ i, 0 ≤ i → i < c → hE h (o + 8) i = wide (f i) ∧ wrg (f i)) (hw : wrg w) : m_X0_placeOfWord o (J (wide w)) h = some (J (poW c f w)) := by
  have hr := wide_rg hw.1 hw.2.1
  unfold m_X0_placeOfWord l_X0_placeOfWord_2 poW
  have e2 : gfI h o 1 2 = some (J c) := by rw [H.1.f2, hc]
  refine loop_find (fun i => J i) c (fun i => decide (wide w ≤ wide (f i))) (fun i => some (J (if i = -1 then c else i))) c0 (by omega) rfl (fun k i hi hi2 hp => ?_) (fun k i hi hi2 hp => ?_) (fun k => ?_)
  · have h1 := hf i hi hi2
    have h2 := wide_rg h1.2.1 h1.2.2.1
    have e3 : m_X0_wordAt o (J i) h = some (J (wide (f i))) := by rw [X0_wordAt_at H.1 (by omega) (by omega), atE_in hi (by omega), h1.1]
    have hp2 : ¬ wide w ≤ wide (f i) := by simpa using hp
    simp (disch := omega) only [b_X0_placeOfWord_2, rc_ok H.tag, e2, e3, lm8, lm2, lm1, l0, l1, l2, l3, l4, l5, l6, l7, l8, l9, l10, l11, l12, l13, l14, l15, l16, l17, l18, l19, l20, l21, l22, l23, l24, l25, l27, l31, l32, l40, l46, l48, l50, l57, l59, l63, l86, l96, l97, l100, l110, l114, l122, l127, l200, l255, l300, l319, l320, l340, l441, l456, l580, l600, l800, l886, l1206, l1526, J_add, J_sub, J_mul, J_neg, J_lt, J_le, J_eq, jT, jF, iT, iF, eT, eF, aT, aF, ite_true, ite_false, ite_not, bs]
  · have h1 := hf i hi hi2
    have h2 := wide_rg h1.2.1 h1.2.2.1
    have e3 : m_X0_wordAt o (J i) h = some (J (wide (f i))) := by rw [X0_wordAt_at H.1 (by omega) (by omega), atE_in hi (by omega), h1.1]
    have hp2 : wide w ≤ wide (f i) := by simpa using hp
    rw [if_neg (by omega)]
    simp (disch := omega) only [b_X0_placeOfWord_2, rc_ok H.tag, e2, e3, lm8, lm2, lm1, l0, l1, l2, l3, l4, l5, l6, l7, l8, l9, l10, l11, l12, l13, l14, l15, l16, l17, l18, l19, l20, l21, l22, l23, l24, l25, l27, l31, l32, l40, l46, l48, l50, l57, l59, l63, l86, l96, l97, l100, l110, l114, l122, l127, l200, l255, l300, l319, l320, l340, l441, l456, l580, l600, l800, l886, l1206, l1526, J_add, J_sub, J_mul, J_neg, J_lt, J_le, J_eq, jT, jF, iT, iF, eT, eF, aT, aF, ite_true, ite_false, ite_not, bs]
  · rw [if_pos rfl]
    simp (disch := omega) only [b_X0_placeOfWord_2, e2, lm8, lm2, lm1, l0, l1, l2, l3, l4, l5, l6, l7, l8, l9, l10, l11, l12, l13, l14, l15, l16, l17, l18, l19, l20, l21, l22, l23, l24, l25, l27, l31, l32, l40, l46, l48, l50, l57, l59, l63, l86, l96, l97, l100, l110, l114, l122, l127, l200, l255, l300, l319, l320, l340, l441, l456, l580, l600, l800, l886, l1206, l1526, J_add, J_sub, J_mul, J_neg, J_lt, J_le, J_eq, jT, jF, iT, iF, eT, eF, aT, aF, ite_true, ite_false, ite_not, bs]
theorem CA.openWord (H : CA h o T) {k w c : Int} (hc : hE h o 2 = c) (k0 : 0 ≤ k) (k1 : k ≤ c) (c1 : c < 340) (w0 : -2147483648 ≤ w) (w1 : w < 2147483648) : ∃ h', m_X0_openWord o (J k) (J w) h = some h' ∧ FR (AWd o) h h' ∧ hE h' o 2 = c + 1 ∧ (∀ i, 0 ≤ i → i ≤ c → hE h' (o + 8) i = if i < k then hE h (o + 8) i else if i = k then w else hE h (o + 8) (i - 1)) ∧ (∀ i, 0 ≤ i → i ≤ c → hL h' (o + 9) i = if i < k then hL h (o + 9) i else if i = k then L 0 else hL h (o + 9) (i - 1)) := by
  have e2 : gfI h o 1 2 = some (J c) := by rw [H.1.f2, hc]
  unfold m_X0_openWord
  simp (disch := omega) only [e2, lm8, lm2, lm1, l0, l1, l2, l3, l4, l5, l6, l7, l8, l9, l10, l11, l12, l13, l14, l15, l16, l17, l18, l19, l20, l21, l22, l23, l24, l25, l27, l31, l32, l40, l46, l48, l50, l57, l59, l63, l86, l96, l97, l100, l110, l114, l122, l127, l200, l255, l300, l319, l320, l340, l441, l456, l580, l600, l800, l886, l1206, l1526, J_add, J_sub, J_mul, J_neg, J_lt, J_le, J_eq, jT, jF, iT, iF, eT, eF, aT, aF, ite_true, ite_false, ite_not, bs]
  obtain ⟨s, ⟨h1, rfl, F1, f2, p1, p2⟩, e⟩ := loop_ex (body := fun (k_ : Int32 × Hp → Option Hp) (s : Int32 × Hp) => b_X0_openWord_28 o (J k) (J w) (fun hz4 => j_X0_openWord_67 o (J k) (J w) hz4) (fun v3q hq => k_ (v3q, hq)) s.1 s.2) (s := (J c, h)) (fun j s => ∃ h', s = (J (c - j), h') ∧ FR (AWd o) h h' ∧ hE h' o 2 = c ∧ (∀ i, 0 ≤ i → hE h' (o + 8) i = if c - j < i ∧ i ≤ c then hE h (o + 8) (i - 1) else hE h (o + 8) i) ∧ (∀ i, 0 ≤ i → hL h' (o + 9) i = if c - j < i ∧ i ≤ c then hL h (o + 9) (i - 1) else hL h (o + 9) i)) (fun s => j_X0_openWord_67 o (J k) (J w) s.2) (c - k) (by omega) (by omega) ⟨h, by rw [show c - 0 = c by omega], FR.refl _ _, hc, fun i _ => (if_neg (by omega)).symm, fun i _ => (if_neg (by omega)).symm⟩ (by
      rintro K j s j0 j1 ⟨h', rfl, F, f2, p1, p2⟩
      have G := H.frW F
      have G1 : TA (top (wE h' (o + 8) (c - j) (hE h' (o + 8) (c - j - 1)))) o := G.1
      refine ⟨(J (c - (j + 1)), wJ (wE h' (o + 8) (c - j) (hE h' (o + 8) (c - j - 1))) (o + 9) (c - j) (hL h' (o + 9) (c - j - 1))), ⟨_, rfl, F.trans ((FR.wE (by unfold AWd; omega)).trans (FR.wJ (by unfold AWd; omega))), ?_, fun i i0 => ?_, fun i i0 => ?_⟩, ?_⟩
      · rw [hE_wJ, hE_wE_ne (by omega), f2]
      · rw [hE_wJ, hE_wE (by omega) i0 (hE_rg _ _ _).1 (hE_rg _ _ _).2]
        by_cases hi : i = c - j
        · rw [if_pos ⟨rfl, hi⟩, p1 _ (by omega), if_neg (by omega), if_pos (by omega), hi]
        · rw [if_neg (fun q => hi q.2), p1 i i0]
          by_cases hq : c - j < i ∧ i ≤ c
          · rw [if_pos hq, if_pos (by omega)]
          · rw [if_neg hq, if_neg (by omega)]
      · rw [hL_wJ (by omega) i0, hL_wE]
        by_cases hi : i = c - j
        · rw [if_pos ⟨rfl, hi⟩, p2 _ (by omega), if_neg (by omega), if_pos (by omega), hi]
        · rw [if_neg (fun q => hi q.2), p2 i i0]
          by_cases hq : c - j < i ∧ i ≤ c
          · rw [if_pos hq, if_pos (by omega)]
          · rw [if_neg hq, if_neg (by omega)]
      · rw [show c - (j + 1) = c - j + -1 by omega]
        show b_X0_openWord_28 o (J k) (J w) (fun hz4 => j_X0_openWord_67 o (J k) (J w) hz4) (fun v3q hq => K (v3q, hq)) (J (c - j)) h' = _
        simp (disch := omega) only [b_X0_openWord_28, G.1.r10, G1.r11, alI_ok G.1.a10, asI_ok G.1.a10, alJ_ok G1.a11, asJ_ok G1.a11, hL_wE, lm8, lm2, lm1, l0, l1, l2, l3, l4, l5, l6, l7, l8, l9, l10, l11, l12, l13, l14, l15, l16, l17, l18, l19, l20, l21, l22, l23, l24, l25, l27, l31, l32, l40, l46, l48, l50, l57, l59, l63, l86, l96, l97, l100, l110, l114, l122, l127, l200, l255, l300, l319, l320, l340, l441, l456, l580, l600, l800, l886, l1206, l1526, J_add, J_sub, J_mul, J_neg, J_lt, J_le, J_eq, jT, jF, iT, iF, eT, eF, aT, aF, ite_true, ite_false, ite_not, bs]) (by
      rintro K s ⟨h', rfl, -⟩
      show b_X0_openWord_28 o (J k) (J w) (fun hz4 => j_X0_openWord_67 o (J k) (J w) hz4) (fun v3q hq => K (v3q, hq)) (J (c - (c - k))) h' = _
      simp (disch := omega) only [b_X0_openWord_28, lm8, lm2, lm1, l0, l1, l2, l3, l4, l5, l6, l7, l8, l9, l10, l11, l12, l13, l14, l15, l16, l17, l18, l19, l20, l21, l22, l23, l24, l25, l27, l31, l32, l40, l46, l48, l50, l57, l59, l63, l86, l96, l97, l100, l110, l114, l122, l127, l200, l255, l300, l319, l320, l340, l441, l456, l580, l600, l800, l886, l1206, l1526, J_add, J_sub, J_mul, J_neg, J_lt, J_le, J_eq, jT, jF, iT, iF, eT, eF, aT, aF, ite_true, ite_false, ite_not, bs])
  have G := H.frW F1
  have G1 : TA (top (wE h1 (o + 8) k w)) o := G.1
  have G2 : TA (top (wJ (wE h1 (o + 8) k w) (o + 9) k (L 0))) o := G.1
  have e3 : gfI (wJ (wE h1 (o + 8) k w) (o + 9) k (L 0)) o 1 2 = some (J c) := by
    rw [G2.f2, hE_wJ, hE_wE_ne (by omega), f2]
  refine ⟨wE (wJ (wE h1 (o + 8) k w) (o + 9) k (L 0)) o 2 (c + 1), ?_, F1.trans ((FR.wE (by unfold AWd; omega)).trans ((FR.wJ (by unfold AWd; omega)).trans (FR.wE (by unfold AWd; exact Or.inl ⟨rfl, rfl⟩)))), ?_, fun i i0 i1 => ?_, fun i i0 i1 => ?_⟩
  · unfold l_X0_openWord_28
    refine e.trans ?_
    show j_X0_openWord_67 o (J k) (J w) h1 = _
    have e4 : ∀ z : Int, pfI (wJ (wE h1 (o + 8) k w) (o + 9) k (L 0)) o 1 2 (J z) = some (wE (wJ (wE h1 (o + 8) k w) (o + 9) k (L 0)) o 2 z) := fun z => pfI_ok G2.tag
    simp (disch := omega) only [j_X0_openWord_67, G.1.r10, G1.r11, asI_ok G.1.a10, asJ_ok G1.a11, ll0, e3, e4, lm8, lm2, lm1, l0, l1, l2, l3, l4, l5, l6, l7, l8, l9, l10, l11, l12, l13, l14, l15, l16, l17, l18, l19, l20, l21, l22, l23, l24, l25, l27, l31, l32, l40, l46, l48, l50, l57, l59, l63, l86, l96, l97, l100, l110, l114, l122, l127, l200, l255, l300, l319, l320, l340, l441, l456, l580, l600, l800, l886, l1206, l1526, J_add, J_sub, J_mul, J_neg, J_lt, J_le, J_eq, jT, jF, iT, iF, eT, eF, aT, aF, ite_true, ite_false, ite_not, bs]
  · rw [hE_wE (by omega) (by omega) (by omega) (by omega), if_pos ⟨rfl, rfl⟩]
  · rw [hE_wE_ne (by omega), hE_wJ, hE_wE k0 i0 w0 w1, p1 i i0]
    by_cases q1 : i < k
    · rw [if_neg (by omega), if_neg (by omega), if_pos q1]
    · rw [if_neg q1]
      by_cases q2 : i = k
      · rw [if_pos ⟨rfl, q2⟩, if_pos q2]
      · rw [if_neg (fun z => q2 z.2), if_neg q2, if_pos (by omega)]
  · rw [hL_wE, hL_wJ k0 i0, hL_wE, p2 i i0]
    by_cases q1 : i < k
    · rw [if_neg (by omega), if_neg (by omega), if_pos q1]
    · rw [if_neg q1]
      by_cases q2 : i = k
      · rw [if_pos ⟨rfl, q2⟩, if_pos q2]
      · rw [if_neg (fun z => q2 z.2), if_neg q2, if_pos (by omega)]
/-- the words are listed -/
def CWn (h : Hp) (o : Nat) (T : Int → Int) (n : Nat) : Prop := hE h o 2 = wcN T n ∧ ∀ i, 0 ≤ i → i < wcN T n → hE h (o + 8) i = wide (wfN T n i) ∧ hL h (o + 9) i = L (slN T (wfN T n i) n)
def CW (h : Hp) (o : Nat) (T : Int → Int) : Prop := CWn h o T (T 5).toNat
theorem wl_T {n : Nat} (hh : haW (wcN T n) (wfN T n) (wdT T n) = true) : wcN T (n + 1) = wcN T n ∧ wfN T (n + 1) = wfN T n := by
  have e : WL (gT T) (n + 1) = WL (gT T) n := if_pos hh
  exact ⟨congrArg Prod.fst e, congrArg Prod.snd e⟩
theorem wl_F {n : Nat} (hh : haW (wcN T n) (wfN T n) (wdT T n) = false) : wcN T (n + 1) = wcN T n + 1 ∧ wfN T (n + 1) = shW (poW (wcN T n) (wfN T n) (wdT T n)) (wdT T n) (wfN T n) := by
  have e : WL (gT T) (n + 1) = (wcN T n + 1, shW (poW (wcN T n) (wfN T n) (wdT T n)) (wdT T n) (wfN T n)) := if_neg (fun q => by rw [show haW (WL (gT T) n).1 (WL (gT T) n).2 (gT T n) = false from hh] at q; cases q)
  exact ⟨congrArg Prod.fst e, congrArg Prod.snd e⟩
theorem CA.listWords (H : CA h o T) : ∃ h', m_X0_listWords o h = some h' ∧ FR (AWd o) h h' ∧ CW h' o T := by
  have h5 := H.wf.n5
  have e0 : pfI h o 1 2 (J 0) = some (wE h o 2 0) := pfI_ok H.tag
  have F0 : FR (AWd o) h (wE h o 2 0) := FR.wE (Or.inl ⟨rfl, rfl⟩)
  unfold m_X0_listWords
  rw [l0, e0, bs]
  unfold l_X0_listWords_7
  obtain ⟨s, ⟨h1, rfl, F1, C1⟩, e⟩ := loop_ex (body := fun (k : Int32 × Hp → Option Hp) (s : Int32 × Hp) => b_X0_listWords_7 o (fun v1q hq => k (v1q, hq)) s.1 s.2) (s := (J 0, wE h o 2 0)) (fun t s => ∃ h', s = (J t, h') ∧ FR (AWd o) h h' ∧ CWn h' o T t.toNat) (fun s => some s.2) (T 5) h5.1 (by omega) ⟨_, rfl, F0, by rw [hE_wE (by omega) (by omega) (by omega) (by omega), if_pos ⟨rfl, rfl⟩]; rfl, fun i i0 i1 => absurd i1 (by show ¬ i < 0; omega)⟩ (by
      rintro K t s t0 t1 ⟨h', rfl, F, hc, hcell⟩
      have G := H.frW F
      have hnT : ((t.toNat : Nat) : Int) = t := Int.toNat_of_nonneg t0
      have hw : wrg (wdT T t) := by
        have := gT_wrg H.wf t.toNat (by omega)
        unfold gT at this
        rw [hnT] at this
        exact this
      have hG := GWl_T H.wf (n := t.toNat) (by omega)
      have hcr := hG.1
      have hwr := wide_rg hw.1 hw.2.1
      have hm := stT_lt H.wf t0 t1
      have ho := H.wf.2.2.2.2.2.2.2 t t0 t1
      have hn0 := H.wf.n0
      have ep := G.placeOfWord (w := wdT T t) (f := wfN T t.toNat) hc hcr.1 (by omega) (fun i i0 i1 => ⟨(hcell i i0 i1).1, wf_wrg H.wf (by omega) i0 i1⟩) hw
      have hp := poW_spec (f := wfN T t.toNat) (w := wdT T t) hcr.1
      have ec : gfI h' o 1 2 = some (J (wcN T t.toNat)) := by rw [G.1.f2, hc]
      have hhi := haW_iff (w := wdT T t) hcr.1 hG.2.2.2
      generalize hpd : poW (wcN T t.toNat) (wfN T t.toNat) (wdT T t) = p at *
      have eslot : lshlF (Int32.toInt64 (J (stT T t : Nat))) (J (owT T t * 10 + 0)) = L (stT T t * 2 ^ (owT T t * 10).toNat) := by
        rw [L_toI64 (by omega), L_shl (by omega) (by omega), Int.add_zero]
      have hslt : stT T t * 2 ^ (owT T t * 10).toNat < 2 ^ 64 := by
        have h4 : (owT T t * 10).toNat ≤ 30 := by omega
        have h6 : stT T t * 2 ^ (owT T t * 10).toNat < 2 ^ 10 * 2 ^ (owT T t * 10).toNat := Nat.mul_lt_mul_of_pos_right hm (Nat.two_pow_pos _)
        rw [← Nat.pow_add] at h6
        exact Nat.lt_of_lt_of_le h6 (Nat.pow_le_pow_right (by decide) (by omega))
      have hsl : ∀ w, slN T w (t.toNat + 1) = slN T w t.toNat ||| (if wdT T t = w then stT T t * 2 ^ (owT T t * 10).toNat else 0) := fun w => by
        show slN T w t.toNat ||| (if wdT T (t.toNat : Int) = w then stT T (t.toNat : Int) * 2 ^ (owT T (t.toNat : Int) * 10).toNat else 0) = _
        rw [hnT]
      rw [show (t + 1).toNat = t.toNat + 1 by omega]
      cases hh : haW (wcN T t.toNat) (wfN T t.toNat) (wdT T t)
      · have hno : ∀ i, 0 ≤ i → i < wcN T t.toNat → wfN T t.toNat i ≠ wdT T t := fun i i0 i1 q => by
          rw [hhi.mpr ⟨i, i0, i1, q⟩] at hh
          cases hh
        have hnw : slN T (wdT T t) t.toNat = 0 := slN_zero _ (fun u hu q => by
          obtain ⟨i, i0, i1, fi⟩ := hG.2.2.1 u hu
          exact hno i i0 i1 (fi.trans q))
        obtain ⟨h2, e2, F2, c2, l2, s2⟩ := G.openWord (w := wide (wdT T t)) hc hp.1 hp.2.1 (by omega) (by omega) (by omega)
        have G2 := G.frW F2
        have wl := wl_F (T := T) (n := t.toNat) (by rw [hnT]; exact hh)
        rw [hnT, hpd] at wl
        have ex2 : hL h2 (o + 9) p = L 0 := by rw [s2 p hp.1 hp.2.1, if_neg (by omega), if_pos rfl]
        refine ⟨(J (t + 1), wJ h2 (o + 9) p (L (stT T t * 2 ^ (owT T t * 10).toNat))), ⟨_, rfl, (F.trans F2).trans (FR.wJ (by unfold AWd; omega)), ?_, fun i i0 i1 => ⟨?_, ?_⟩⟩, ?_⟩
        · rw [hE_wJ, c2, wl.1]
        · rw [wl.1] at i1
          rw [hE_wJ, l2 i i0 (by omega), wl.2]
          unfold shW
          by_cases q1 : i < p
          · rw [if_pos q1, if_pos q1]
            exact (hcell i i0 (by omega)).1
          · rw [if_neg q1, if_neg q1]
            by_cases q2 : i = p
            · rw [if_pos q2, if_pos q2]
            · rw [if_neg q2, if_neg q2]
              exact (hcell (i - 1) (by omega) (by omega)).1
        · rw [wl.1] at i1
          rw [hL_wJ hp.1 i0, s2 i i0 (by omega), wl.2, hsl]
          unfold shW
          by_cases q1 : i < p
          · rw [if_neg (by omega), if_pos q1, if_pos q1, if_neg (Ne.symm (hno i i0 (by omega))), Nat.or_zero]
            exact (hcell i i0 (by omega)).2
          · by_cases q2 : i = p
            · rw [if_pos ⟨rfl, q2⟩, if_neg q1, if_pos q2, if_pos rfl, hnw, Nat.zero_or]
            · rw [if_neg (fun z => q2 z.2), if_neg q1, if_neg q2, if_neg q1, if_neg q2, if_neg (Ne.symm (hno (i - 1) (by omega) (by omega))), Nat.or_zero]
              exact (hcell (i - 1) (by omega) (by omega)).2
        · show b_X0_listWords_7 o (fun v1q hq => K (v1q, hq)) (J t) h' = _
          have e53 : j_X0_listWords_53 o (J t) (J p) h2 (fun v1q hq => K (v1q, hq)) = K (J (t + 1), wJ h2 (o + 9) p (L (stT T t * 2 ^ (owT T t * 10).toNat))) := by
            have eor : L 0 ||| L (stT T t * 2 ^ (owT T t * 10).toNat) = L (stT T t * 2 ^ (owT T t * 10).toNat) := by
              rw [L_or (by decide) hslt, Nat.zero_or]
            simp (disch := omega) only [j_X0_listWords_53, j_X0_listWords_87, rc_ok G2.tag, G2.1.r11, alenJ_ok G2.1.a11, alJ_ok G2.1.a11, asJ_ok G2.1.a11, G2.stayOf, G2.ownerOf, X0_slotOf_ok, eslot, ex2, eor, lm8, lm2, lm1, l0, l1, l2, l3, l4, l5, l6, l7, l8, l9, l10, l11, l12, l13, l14, l15, l16, l17, l18, l19, l20, l21, l22, l23, l24, l25, l27, l31, l32, l40, l46, l48, l50, l57, l59, l63, l86, l96, l97, l100, l110, l114, l122, l127, l200, l255, l300, l319, l320, l340, l441, l456, l580, l600, l800, l886, l1206, l1526, J_add, J_sub, J_mul, J_neg, J_lt, J_le, J_eq, jT, jF, iT, iF, eT, eF, aT, aF, ite_true, ite_false, ite_not, bs]
          have e47 : j_X0_listWords_47 o (J t) (J (wide (wdT T t))) (J p) h' (fun v1q hq => K (v1q, hq)) = K (J (t + 1), wJ h2 (o + 9) p (L (stT T t * 2 ^ (owT T t * 10).toNat))) := by
            unfold j_X0_listWords_47
            rw [rc_ok G.tag, e2, bs]
            exact e53
          by_cases hpc : p < wcN T t.toNat
          · have hcp := hcell p hp.1 hpc
            have hwp := wf_wrg H.wf (n := t.toNat) (by omega) hp.1 hpc
            have hwp2 := wide_rg hwp.1 hwp.2.1
            have hne : wide (wfN T t.toNat p) ≠ wide (wdT T t) := fun q => hno p hp.1 hpc (by rw [wide_eq hwp hw] at q; exact q)
            have e3 : m_X0_wordAt o (J p) h' = some (J (wide (wfN T t.toNat p))) := by rw [X0_wordAt_at G.1 (by omega) (by omega), atE_in hp.1 (by omega), hcp.1]
            simp (disch := omega) only [b_X0_listWords_7, rc_ok G.tag, G.f1, G.1.r7, G.spell, ep, ec, e3, e47, lm8, lm2, lm1, l0, l1, l2, l3, l4, l5, l6, l7, l8, l9, l10, l11, l12, l13, l14, l15, l16, l17, l18, l19, l20, l21, l22, l23, l24, l25, l27, l31, l32, l40, l46, l48, l50, l57, l59, l63, l86, l96, l97, l100, l110, l114, l122, l127, l200, l255, l300, l319, l320, l340, l441, l456, l580, l600, l800, l886, l1206, l1526, J_add, J_sub, J_mul, J_neg, J_lt, J_le, J_eq, jT, jF, iT, iF, eT, eF, aT, aF, ite_true, ite_false, ite_not, bs]
          · simp (disch := omega) only [b_X0_listWords_7, rc_ok G.tag, G.f1, G.1.r7, G.spell, ep, ec, e47, lm8, lm2, lm1, l0, l1, l2, l3, l4, l5, l6, l7, l8, l9, l10, l11, l12, l13, l14, l15, l16, l17, l18, l19, l20, l21, l22, l23, l24, l25, l27, l31, l32, l40, l46, l48, l50, l57, l59, l63, l86, l96, l97, l100, l110, l114, l122, l127, l200, l255, l300, l319, l320, l340, l441, l456, l580, l600, l800, l886, l1206, l1526, J_add, J_sub, J_mul, J_neg, J_lt, J_le, J_eq, jT, jF, iT, iF, eT, eF, aT, aF, ite_true, ite_false, ite_not, bs]
      · have hpw : p < wcN T t.toNat ∧ wfN T t.toNat p = wdT T t := by
          unfold haW at hh
          rw [Bool.and_eq_true, decide_eq_true_eq, decide_eq_true_eq, hpd] at hh
          exact hh
        have wl := wl_T (T := T) (n := t.toNat) (by rw [hnT]; exact hh)
        have hcp := hcell p hp.1 hpw.1
        have hslo := slN_lt H.wf (wdT T t) t.toNat (by omega)
        refine ⟨(J (t + 1), wJ h' (o + 9) p (L (slN T (wdT T t) (t.toNat + 1)))), ⟨_, rfl, F.trans (FR.wJ (by unfold AWd; omega)), ?_, fun i i0 i1 => ⟨?_, ?_⟩⟩, ?_⟩
        · rw [hE_wJ, hc, wl.1]
        · rw [wl.1] at i1
          rw [hE_wJ, wl.2]
          exact (hcell i i0 i1).1
        · rw [wl.1] at i1
          rw [hL_wJ hp.1 i0, wl.2]
          by_cases q2 : i = p
          · rw [if_pos ⟨rfl, q2⟩, q2, hpw.2]
          · have hne : wdT T t ≠ wfN T t.toNat i := by
              intro q
              rw [← hpw.2] at q
              by_cases q3 : i < p
              · have := hG.2.2.2 i p i0 q3 hpw.1
                rw [q] at this
                omega
              · have := hG.2.2.2 p i hp.1 (by omega) i1
                rw [q] at this
                omega
            rw [if_neg (fun z => q2 z.2), hsl, if_neg hne, Nat.or_zero]
            exact (hcell i i0 i1).2
        · show b_X0_listWords_7 o (fun v1q hq => K (v1q, hq)) (J t) h' = _
          have eor : L (slN T (wdT T t) t.toNat) ||| L (stT T t * 2 ^ (owT T t * 10).toNat) = L (slN T (wdT T t) (t.toNat + 1)) := by
            rw [hsl, if_pos rfl, L_or (Nat.lt_trans hslo (by decide)) hslt]
          have ex2 : hL h' (o + 9) p = L (slN T (wdT T t) t.toNat) := by rw [hcp.2, hpw.2]
          have e3 : m_X0_wordAt o (J p) h' = some (J (wide (wdT T t))) := by rw [X0_wordAt_at G.1 (by omega) (by omega), atE_in hp.1 (by omega), hcp.1, hpw.2]
          simp (disch := omega) only [b_X0_listWords_7, j_X0_listWords_53, j_X0_listWords_87, rc_ok G.tag, G.f1, G.1.r7, G.spell, ep, ec, e3, G.1.r11, alenJ_ok G.1.a11, alJ_ok G.1.a11, asJ_ok G.1.a11, G.stayOf, G.ownerOf, X0_slotOf_ok, eslot, ex2, eor, lm8, lm2, lm1, l0, l1, l2, l3, l4, l5, l6, l7, l8, l9, l10, l11, l12, l13, l14, l15, l16, l17, l18, l19, l20, l21, l22, l23, l24, l25, l27, l31, l32, l40, l46, l48, l50, l57, l59, l63, l86, l96, l97, l100, l110, l114, l122, l127, l200, l255, l300, l319, l320, l340, l441, l456, l580, l600, l800, l886, l1206, l1526, J_add, J_sub, J_mul, J_neg, J_lt, J_le, J_eq, jT, jF, iT, iF, eT, eF, aT, aF, ite_true, ite_false, ite_not, bs]) (by
      rintro K s ⟨h', rfl, F, -⟩
      have G := H.frW F
      show b_X0_listWords_7 o (fun v1q hq => K (v1q, hq)) (J (T 5)) h' = _
      simp (disch := omega) only [b_X0_listWords_7, G.f1, lm8, lm2, lm1, l0, l1, l2, l3, l4, l5, l6, l7, l8, l9, l10, l11, l12, l13, l14, l15, l16, l17, l18, l19, l20, l21, l22, l23, l24, l25, l27, l31, l32, l40, l46, l48, l50, l57, l59, l63, l86, l96, l97, l100, l110, l114, l122, l127, l200, l255, l300, l319, l320, l340, l441, l456, l580, l600, l800, l886, l1206, l1526, J_add, J_sub, J_mul, J_neg, J_lt, J_le, J_eq, jT, jF, iT, iF, eT, eF, aT, aF, ite_true, ite_false, ite_not, bs])
  exact ⟨h1, e, F1, C1⟩
end LW
