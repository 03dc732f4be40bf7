/-! PURE PART: the reference reads a question -/
def RQr (h0 h : Hp) (o : Nat) (B : Int → Int) (L f k E own x : Int) : Prop := (x = 0 ∧ miF B L f k ≠ -1 ∧ FR (Ard o) h0 h ∧ hE h o 15 = tkI B L f (enF B L f k)) ∨ (x = 1 ∧ miF B L f k = -1 ∧ RLn h0 h o B L f k E own 1 (if k = 0 then e3w B L f k 4 else 9999) ∧ hE h (o + 10) 1 = qaF B L f k ∧ hE h (o + 10) 2 = qbF B L f k)
section RAq
variable {h h0 h1 : Hp} {o : Nat} {B : Int → Int} {L f k E own X gd m n : Int}
theorem RWd.failW (R : RWd h0 h o B L f k X gd m n) (H : RP h0 o B L) (c : ckF B L (wpF B L f k n) ≠ 1) : ∃ h', m_X12_takeWord o h = some (J 0, h') ∧ FR (Ard o) h0 h' ∧ hE h' o 15 = wpF B L f k n := by
  obtain ⟨h', e1, F, v⟩ := R.2.1.noWord (R.rp H) c
  exact ⟨h', e1, (R.1.mono (fun b k q => Ard_l q)).trans (F.mono (fun b k q => Ard_f q)), v⟩
theorem mixdone (R : RWd h0 h1 o B L f k E 1 100 (wCk k)) (N : RNs h1 h o B L f k (min E (min (e2u B L f k (wCk k)) (e3u B L f k 100 (wCk k)))) own (gdU B L f k 1 (wCk k)) 1 (nCk k)) (W : LnW B L f k) (cm : moK k ≠ true) : RLn h0 h o B L f k E own 1 9999 := by
  have kr := kk_rg k
  have ex := ex_spec (B := B) (k := k) W.1.2.2 W.1.1 W.1.2.1
  have x0 := ex.2.2.2.2 cm
  have nw : nwF B L f k = wCk k := by unfold nwF; omega
  have w2 : e2u B L f k (wCk k) = e2w B L f k := by rw [← nw]; rfl
  have w3 : e3u B L f k 100 (wCk k) = 9999 := if_neg (by omega)
  have gw : gdU B L f k 1 (wCk k) = if e2w B L f k = 9999 then 1 else 0 := by
    have ms := W.ms
    rw [← nw]
    unfold gdU e2w
    split
    · rw [if_pos rfl]
    · rw [if_neg (by omega)]
  have l2_ := e2w_le W
  have ln_ : e2n B L f k own ≤ 9999 := bnU_le
  obtain ⟨r1, r2, r3, r4, r5, r6⟩ := R
  obtain ⟨n1, n2, n3, n4, n5⟩ := N
  have en : bnU B L f k own (nCk k).toNat = e2n B L f k own := rfl
  rw [en] at n3 n4
  rw [w2, w3] at n3
  rw [gw] at n4
  refine ⟨(r1.mono (fun b k q => Ard_l q)).trans (n1.mono (fun b k q => Ard_m q)), ?_, ?_, ?_, ?_, n5, fun j j0 j1 jl => ?_⟩
  · rw [x0, show 1 + shL k + 0 = 1 + wCk k + nCk k by omega]
    exact n2
  · rw [show min E (min (min (e2n B L f k own) (e2w B L f k)) 9999) = min (min E (min (e2w B L f k) 9999)) (e2n B L f k own) by omega]
    exact n3
  · rw [n4]
    by_cases a : e2n B L f k own = 9999
    · rw [if_pos a]
      by_cases b : e2w B L f k = 9999
      · rw [if_pos b, if_pos (by omega)]
      · rw [if_neg b, if_neg (by omega)]
    · rw [if_neg a, if_neg (by omega)]
  · rw [n1.e (by unfold Anm; omega), r5, nw]
  · rw [n1.e (by unfold Anm; omega)]
    exact r6 j j0 (by omega) jl
theorem cn_word {i : Int} (q : i < wCk k) : cnK k i = 1 := if_pos q
theorem RK.readAsking (K : RK h o B L (tkI B L f 1)) (H : RP h o B L) (e : ENr h o E) (h22 : hE h o 22 = 1) (h21 : hE h o 21 = 0) (f0 : 0 ≤ f) (fl : f < L) (k0 : 0 ≤ k) (k7 : k ≤ 7) (o0 : 0 ≤ own) (o8 : own ≤ 8) (r1 : hE h (o + 10) 1 = -1) (r2 : hE h (o + 10) 2 = -1) : ∃ x h', m_X12_readAsking o (J k) (J own) h = some (J x, h') ∧ RQr h h' o B L f k E own x := by
  have hL := H.2.1.2.1
  have fL : f ≤ L := by omega
  have kr := kk_rg k
  have wo : wOk k = 0 := by unfold wOk; rw [if_neg (by omega)]
  have nC : nCk k = if k = 0 then 0 else if k ≤ 5 then 1 else 2 := by
    unfold nCk
    repeat' split
    all_goals omega
  have wC : wCk k = if k = 0 then 1 else if k = 1 then 2 else if k = 2 then 1 else 0 := rfl
  have wp : ∀ j, wpF B L f k j = tkI B L f (1 + j) := fun j => by
    unfold wpF
    rw [wo, show 1 + 0 + j = 1 + j by omega]
  have vp : ∀ j, vpF B L f k j = tkI B L f (1 + (wCk k + j)) := fun j => by
    unfold vpF
    rw [show 1 + wCk k + j = 1 + (wCk k + j) by omega]
  have fail : ∀ (g : Hp) (i : Int), 0 ≤ i → i < shL k → (∀ j, 0 ≤ j → j < i → ckF B L (tkI B L f (1 + j)) = cnK k j) → ckF B L (tkI B L f (1 + i)) ≠ cnK k i → FR (Ard o) h g → hE g o 15 = tkI B L f (1 + i) → RQr h g o B L f k E own 0 := fun g i i0 i1 a c F v => by
    have m := mi_at (B := B) (L := L) (f := f) (k := k) i0 i1 a c
    refine Or.inl ⟨rfl, by omega, F, ?_⟩
    rw [m.2, v]
  by_cases c0 : k = 0
  · have S : RWd h h o B L f k E 1 4 0 := RWd.start (by rw [wp]; exact K) e h22 h21 (by omega)
    rw [if_pos c0] at nC wC
    by_cases q : ckF B L (tkI B L f 1) = 1
    · have mi := mi_all (B := B) (L := L) (f := f) (k := k) (fun j j0 j1 => by
        rw [show j = 0 by omega, cn_word (by omega)]
        exact q)
      have W : LnW B L f k := ⟨⟨f0, fL, hL⟩, ⟨by omega, by omega⟩, mi.1⟩
      obtain ⟨g1, e1, S1⟩ := S.one0 H f0 fL (by omega) (by omega) (by rw [wp]; exact q) (by omega)
      have ex := ex_spec (B := B) (k := k) W.1.2.2 W.1.1 W.1.2.1
      have nwd : nwF B L f k = wCk k + exF B L f k := rfl
      have cm : moK k = true := by unfold moK; exact decide_eq_true (by omega)
      obtain ⟨g2, e2, S2⟩ := S1.all H W fl cm (by omega) (by omega) (by omega) (by omega)
      have H1 := S1.rp H
      have H2 := S2.rp H
      have f21 : gfI g2 o 12 21 = some (J (nwF B L f k)) := by rw [H2.fI]; exact congrArg (fun z => some (J z)) S2.2.2.2.2.1
      have nb : nwF B L f k ≤ 700 := by omega
      have s3 : asI g2 (o + 10) (J 1) (J (nwF B L f k)) = some (wE g2 (o + 10) 1 (nwF B L f k)) := asI_ok H2.1.a19 (by omega) (by omega) (by omega)
      have F3 : FR (fun b k => b = o + 10 ∧ k = 1) g2 (wE g2 (o + 10) 1 (nwF B L f k)) := FR.wE (A := fun b k => b = o + 10 ∧ k = 1) ⟨rfl, rfl⟩
      have z1 : hE (wE g2 (o + 10) 1 (nwF B L f k)) (o + 10) 1 = nwF B L f k := by rw [hE_wE (by omega) (by omega) (by omega) (by omega), if_pos ⟨rfl, rfl⟩]
      generalize wE g2 (o + 10) 1 (nwF B L f k) = g3 at *
      have x2 : e2u B L f k (nwF B L f k) = e2w B L f k := rfl
      have x3 : e3u B L f k 4 (nwF B L f k) = e3w B L f k 4 := rfl
      have en : e2n B L f k own = 9999 := by unfold e2n; rw [nC]; rfl
      have l2_ := e2w_le W
      refine ⟨1, g3, ?_, Or.inr ⟨rfl, mi.1, ⟨(S2.1.mono (fun b k q => Ard_l q)).trans (F3.mono (fun b k q => by unfold Ard; omega)), ?_, ?_, ?_, ?_, fun j j0 j1 => by omega, fun j j0 j1 jl => ?_⟩, ?_, ?_⟩⟩
      · rw [c0]
        simp (disch := omega) only [m_X12_readAsking, rc_ok H.tag, e1, rc_ok H1.tag, e2, H2.1.r19, f21, s3, lm8, lm2, lm1, l0, l1, l2, l3, l4, l5, l6, l7, l8, l9, l10, l11, l12, l13, l14, l15, l16, l17, l18, l19, l20, l21, l22, l23, l24, l25, l27, l31, l32, l40, l46, l48, l50, l57, l59, l63, l86, l96, l97, l100, l110, l114, l122, l127, l200, l255, l300, l319, l320, l340, l441, l456, l580, l600, l800, l886, l1206, l1526, J_add, J_sub, J_mul, J_neg, J_lt, J_le, J_eq, jT, jF, iT, iF, eT, eF, aT, aF, ite_true, ite_false, ite_not, bs]
      · have e4 : wpF B L f k (nwF B L f k) = tkI B L f (1 + shL k + exF B L f k) := by
          unfold wpF nwF
          rw [mo_shL cm, show 1 + wOk k + (wCk k + exF B L f k) = 1 + (wOk k + wCk k) + exF B L f k by omega]
        rw [← e4]
        exact S2.2.1.fr F3 (fun k hk => by omega)
      · have := S2.2.2.1
        rw [x2, x3] at this
        rw [if_pos c0, en, show min E (min (min 9999 (e2w B L f k)) (e3w B L f k 4)) = min E (min (e2w B L f k) (e3w B L f k 4)) by omega]
        exact this.frame F3 (by omega) (by omega)
      · rw [F3.e (by omega), S2.2.2.2.1, en, show min 9999 (e2w B L f k) = e2w B L f k by omega]
        have ms := W.ms
        unfold gdU e2w
        split
        · rw [if_pos rfl]
        · rw [if_neg (by omega)]
      · rw [F3.e (by omega), S2.2.2.2.2.1]
      · rw [F3.e (by omega)]
        exact S2.2.2.2.2.2 j j0 j1 jl
      · rw [z1]
        unfold qaF
        rw [if_pos c0]
      · rw [F3.e (by omega), S2.1.e (by unfold Awl; omega), r2]
        unfold qbF
        rw [if_neg (by omega)]
    · obtain ⟨g1, e1, F1, v1⟩ := S.failW H (by rw [wp]; exact q)
      refine ⟨0, g1, ?_, fail g1 0 (by omega) (by omega) (fun j j0 j1 => by omega) (by rw [cn_word (by omega)]; exact q) F1 (by rw [v1, wp])⟩
      rw [c0]
      simp (disch := omega) only [m_X12_readAsking, rc_ok H.tag, e1, lm8, lm2, lm1, l0, l1, l2, l3, l4, l5, l6, l7, l8, l9, l10, l11, l12, l13, l14, l15, l16, l17, l18, l19, l20, l21, l22, l23, l24, l25, l27, l31, l32, l40, l46, l48, l50, l57, l59, l63, l86, l96, l97, l100, l110, l114, l122, l127, l200, l255, l300, l319, l320, l340, l441, l456, l580, l600, l800, l886, l1206, l1526, J_add, J_sub, J_mul, J_neg, J_lt, J_le, J_eq, jT, jF, iT, iF, eT, eF, aT, aF, ite_true, ite_false, ite_not, bs]
  · rw [if_neg c0] at nC wC
    have S : RWd h h o B L f k E 1 100 0 := RWd.start (by rw [wp]; exact K) e h22 h21 (by omega)
    have cm : moK k ≠ true := fun q => by
      have := of_decide_eq_true q
      omega
    -- all words and the first number
    have lo1 : loV k 0 = if k ≤ 2 then 1 else 0 := by
      unfold loV
      repeat' split
      all_goals omega
    have hi1 : hiV k own 0 = if k ≤ 2 then 9 else own - 1 := by
      unfold hiV
      repeat' split
      all_goals omega
    have fin1 : ∀ g1, RWd h g1 o B L f k E 1 100 (wCk k) → (∀ j, 0 ≤ j → j < wCk k → ckF B L (tkI B L f (1 + j)) = cnK k j) → (∃ g2, m_X12_take o (J 1) (J (if k ≤ 2 then 1 else 0)) (J (if k ≤ 2 then 9 else own - 1)) g1 = some (J 0, g2) ∧ RQr h g2 o B L f k E own 0) ∨ (∃ g2, m_X12_take o (J 1) (J (if k ≤ 2 then 1 else 0)) (J (if k ≤ 2 then 9 else own - 1)) g1 = some (J 1, g2) ∧ RNs g1 g2 o B L f k (min E (min (e2u B L f k (wCk k)) (e3u B L f k 100 (wCk k)))) own (gdU B L f k 1 (wCk k)) 1 1 ∧ FR (Ata o 1) g1 g2 ∧ ∀ j, 0 ≤ j → j < wCk k + 1 → ckF B L (tkI B L f (1 + j)) = cnK k j) := fun g1 S1 a => by
      have H1 := S1.rp H
      have N0 : RNs g1 g1 o B L f k (min E (min (e2u B L f k (wCk k)) (e3u B L f k 100 (wCk k)))) own (gdU B L f k 1 (wCk k)) 1 0 := RNs.start (by
        rw [vp, Int.add_zero, ← wp]
        exact S1.2.1) S1.2.2.1 S1.2.2.2.1
      have cn : cnK k (wCk k) = 2 := by
        unfold cnK
        rw [if_neg (by omega)]
      have ns : 0 < nCk k := by rw [nC]; split <;> omega
      by_cases q : ckF B L (tkI B L f (1 + wCk k)) = 2
      · obtain ⟨g2, e2, N1, Ft⟩ := N0.one2 H1 f0 fL (by omega) (by omega) (by rw [vp, Int.add_zero]; exact q) (by omega) (by omega) o0 o8 rfl rfl
        refine Or.inr ⟨g2, ?_, N1, Ft, fun j j0 j1 => ?_⟩
        · rw [← lo1, ← hi1]
          exact e2
        · by_cases y : j < wCk k
          · exact a j j0 y
          · rw [show j = wCk k by omega, cn]
            exact q
      · obtain ⟨g2, e2, F2, v2⟩ := N0.fail H1 (by rw [vp, Int.add_zero]; exact q) (x := J 1) (y := J (if k ≤ 2 then 1 else 0)) (z := J (if k ≤ 2 then 9 else own - 1))
        exact Or.inl ⟨g2, e2, fail g2 (wCk k) (by omega) (by omega) a (by rw [cn]; exact q) ((S1.1.mono (fun b k q => Ard_l q)).trans F2) (by rw [v2, vp, Int.add_zero])⟩
    have win : ∀ g1 g2, RWd h g1 o B L f k E 1 100 (wCk k) → RNs g1 g2 o B L f k (min E (min (e2u B L f k (wCk k)) (e3u B L f k 100 (wCk k)))) own (gdU B L f k 1 (wCk k)) 1 1 → FR (Ata o 1) g1 g2 → (∀ j, 0 ≤ j → j < wCk k + 1 → ckF B L (tkI B L f (1 + j)) = cnK k j) → k ≤ 5 → RQr h g2 o B L f k E own 1 := fun g1 g2 S1 N1 Ft a k5 => by
      rw [if_pos k5] at nC
      have mi := mi_all (B := B) (L := L) (f := f) (k := k) (fun j j0 j1 => a j j0 (by omega))
      have W : LnW B L f k := ⟨⟨f0, fL, hL⟩, ⟨by omega, by omega⟩, mi.1⟩
      have z := N1.2.2.2.2 0 (by omega) (by omega)
      refine Or.inr ⟨rfl, mi.1, ?_, ?_, ?_⟩
      · rw [if_neg c0]
        exact mixdone S1 (by rw [nC]; exact N1) W cm
      · unfold qaF
        rw [if_neg c0]
        exact z
      · rw [Ft.e (by unfold Ata; omega), S1.1.e (by unfold Awl; omega), r2]
        unfold qbF
        rw [if_neg (by omega)]
    by_cases k2 : k ≤ 2
    · rw [if_pos k2, if_pos k2] at fin1
      by_cases q0 : ckF B L (tkI B L f 1) = 1
      · obtain ⟨g1, e1, S1⟩ := S.one0 H f0 fL (by omega) (by omega) (by rw [wp]; exact q0) (by omega)
        have H1 := S1.rp H
        by_cases c1 : k = 1
        · rw [if_pos c1] at wC
          by_cases q1 : ckF B L (tkI B L f 2) = 1
          · obtain ⟨g2, e2, S2⟩ := S1.one0 H f0 fL (by omega) (by omega) (by rw [wp]; exact q1) (by omega)
            have H2 := S2.rp H
            have S2' : RWd h g2 o B L f k E 1 100 (wCk k) := by rw [wC]; exact S2
            rcases fin1 g2 S2' (fun j j0 j1 => by
              rw [cn_word j1]
              have : j = 0 ∨ j = 1 := by omega
              rcases this with y | y <;> rw [y]
              · exact q0
              · exact q1) with ⟨g3, e3, r3⟩ | ⟨g3, e3, N3, Ft, a⟩
            · refine ⟨0, g3, ?_, r3⟩
              rw [c1]
              simp (disch := omega) only [m_X12_readAsking, j_X12_readAsking_104, rc_ok H.tag, e1, rc_ok H1.tag, e2, rc_ok H2.tag, e3, zb0, lm8, lm2, lm1, l0, l1, l2, l3, l4, l5, l6, l7, l8, l9, l10, l11, l12, l13, l14, l15, l16, l17, l18, l19, l20, l21, l22, l23, l24, l25, l27, l31, l32, l40, l46, l48, l50, l57, l59, l63, l86, l96, l97, l100, l110, l114, l122, l127, l200, l255, l300, l319, l320, l340, l441, l456, l580, l600, l800, l886, l1206, l1526, J_add, J_sub, J_mul, J_neg, J_lt, J_le, J_eq, jT, jF, iT, iF, eT, eF, aT, aF, ite_true, ite_false, ite_not, bs]
            · refine ⟨1, g3, ?_, win g2 g3 S2' N3 Ft a (by omega)⟩
              rw [c1]
              simp (disch := omega) only [m_X12_readAsking, j_X12_readAsking_104, rc_ok H.tag, e1, rc_ok H1.tag, e2, rc_ok H2.tag, e3, zb1, lm8, lm2, lm1, l0, l1, l2, l3, l4, l5, l6, l7, l8, l9, l10, l11, l12, l13, l14, l15, l16, l17, l18, l19, l20, l21, l22, l23, l24, l25, l27, l31, l32, l40, l46, l48, l50, l57, l59, l63, l86, l96, l97, l100, l110, l114, l122, l127, l200, l255, l300, l319, l320, l340, l441, l456, l580, l600, l800, l886, l1206, l1526, J_add, J_sub, J_mul, J_neg, J_lt, J_le, J_eq, jT, jF, iT, iF, eT, eF, aT, aF, ite_true, ite_false, ite_not, bs]
          · obtain ⟨g2, e2, F2, v2⟩ := S1.failW H (by rw [wp]; exact q1)
            refine ⟨0, g2, ?_, fail g2 1 (by omega) (by omega) (fun j j0 j1 => by
              rw [cn_word (by omega), show j = 0 by omega]
              exact q0) (by rw [cn_word (by omega)]; exact q1) F2 (by rw [v2, wp]; rfl)⟩
            rw [c1]
            simp (disch := omega) only [m_X12_readAsking, j_X12_readAsking_104, rc_ok H.tag, e1, rc_ok H1.tag, e2, zb0, lm8, lm2, lm1, l0, l1, l2, l3, l4, l5, l6, l7, l8, l9, l10, l11, l12, l13, l14, l15, l16, l17, l18, l19, l20, l21, l22, l23, l24, l25, l27, l31, l32, l40, l46, l48, l50, l57, l59, l63, l86, l96, l97, l100, l110, l114, l122, l127, l200, l255, l300, l319, l320, l340, l441, l456, l580, l600, l800, l886, l1206, l1526, J_add, J_sub, J_mul, J_neg, J_lt, J_le, J_eq, jT, jF, iT, iF, eT, eF, aT, aF, ite_true, ite_false, ite_not, bs]
        · have c2 : k = 2 := by omega
          rw [if_neg c1, if_pos c2] at wC
          have S1' : RWd h g1 o B L f k E 1 100 (wCk k) := by rw [wC]; exact S1
          rcases fin1 g1 S1' (fun j j0 j1 => by
            rw [cn_word j1, show j = 0 by omega]
            exact q0) with ⟨g3, e3, r3⟩ | ⟨g3, e3, N3, Ft, a⟩
          · refine ⟨0, g3, ?_, r3⟩
            rw [c2]
            simp (disch := omega) only [m_X12_readAsking, j_X12_readAsking_128, rc_ok H.tag, e1, rc_ok H1.tag, e3, zb0, lm8, lm2, lm1, l0, l1, l2, l3, l4, l5, l6, l7, l8, l9, l10, l11, l12, l13, l14, l15, l16, l17, l18, l19, l20, l21, l22, l23, l24, l25, l27, l31, l32, l40, l46, l48, l50, l57, l59, l63, l86, l96, l97, l100, l110, l114, l122, l127, l200, l255, l300, l319, l320, l340, l441, l456, l580, l600, l800, l886, l1206, l1526, J_add, J_sub, J_mul, J_neg, J_lt, J_le, J_eq, jT, jF, iT, iF, eT, eF, aT, aF, ite_true, ite_false, ite_not, bs]
          · refine ⟨1, g3, ?_, win g1 g3 S1' N3 Ft a (by omega)⟩
            rw [c2]
            simp (disch := omega) only [m_X12_readAsking, j_X12_readAsking_128, rc_ok H.tag, e1, rc_ok H1.tag, e3, zb1, lm8, lm2, lm1, l0, l1, l2, l3, l4, l5, l6, l7, l8, l9, l10, l11, l12, l13, l14, l15, l16, l17, l18, l19, l20, l21, l22, l23, l24, l25, l27, l31, l32, l40, l46, l48, l50, l57, l59, l63, l86, l96, l97, l100, l110, l114, l122, l127, l200, l255, l300, l319, l320, l340, l441, l456, l580, l600, l800, l886, l1206, l1526, J_add, J_sub, J_mul, J_neg, J_lt, J_le, J_eq, jT, jF, iT, iF, eT, eF, aT, aF, ite_true, ite_false, ite_not, bs]
      · obtain ⟨g1, e1, F1, v1⟩ := S.failW H (by rw [wp]; exact q0)
        have w1 : 0 < wCk k := by rw [wC]; split; omega; split <;> omega
        refine ⟨0, g1, ?_, fail g1 0 (by omega) (by omega) (fun j j0 j1 => by omega) (by rw [cn_word w1]; exact q0) F1 (by rw [v1, wp])⟩
        have : k = 1 ∨ k = 2 := by omega
        rcases this with y | y <;> rw [y]
        · simp (disch := omega) only [m_X12_readAsking, j_X12_readAsking_104, rc_ok H.tag, e1, zb0, lm8, lm2, lm1, l0, l1, l2, l3, l4, l5, l6, l7, l8, l9, l10, l11, l12, l13, l14, l15, l16, l17, l18, l19, l20, l21, l22, l23, l24, l25, l27, l31, l32, l40, l46, l48, l50, l57, l59, l63, l86, l96, l97, l100, l110, l114, l122, l127, l200, l255, l300, l319, l320, l340, l441, l456, l580, l600, l800, l886, l1206, l1526, J_add, J_sub, J_mul, J_neg, J_lt, J_le, J_eq, jT, jF, iT, iF, eT, eF, aT, aF, ite_true, ite_false, ite_not, bs]
        · simp (disch := omega) only [m_X12_readAsking, j_X12_readAsking_128, rc_ok H.tag, e1, zb0, lm8, lm2, lm1, l0, l1, l2, l3, l4, l5, l6, l7, l8, l9, l10, l11, l12, l13, l14, l15, l16, l17, l18, l19, l20, l21, l22, l23, l24, l25, l27, l31, l32, l40, l46, l48, l50, l57, l59, l63, l86, l96, l97, l100, l110, l114, l122, l127, l200, l255, l300, l319, l320, l340, l441, l456, l580, l600, l800, l886, l1206, l1526, J_add, J_sub, J_mul, J_neg, J_lt, J_le, J_eq, jT, jF, iT, iF, eT, eF, aT, aF, ite_true, ite_false, ite_not, bs]
    · rw [if_neg k2, if_neg k2] at fin1
      rw [if_neg (by omega), if_neg (by omega)] at wC
      have S' : RWd h h o B L f k E 1 100 (wCk k) := by rw [wC]; exact S
      rcases fin1 h S' (fun j j0 j1 => by omega) with ⟨g3, e3, r3⟩ | ⟨g3, e3, N3, Ft, a⟩
      · refine ⟨0, g3, ?_, r3⟩
        have : k = 3 ∨ k = 4 ∨ k = 5 ∨ k = 6 ∨ k = 7 := by omega
        rcases this with y | y | y | y | y <;> rw [y]
        · simp (disch := omega) only [m_X12_readAsking, j_X12_readAsking_159, rc_ok H.tag, e3, zb0, lm8, lm2, lm1, l0, l1, l2, l3, l4, l5, l6, l7, l8, l9, l10, l11, l12, l13, l14, l15, l16, l17, l18, l19, l20, l21, l22, l23, l24, l25, l27, l31, l32, l40, l46, l48, l50, l57, l59, l63, l86, l96, l97, l100, l110, l114, l122, l127, l200, l255, l300, l319, l320, l340, l441, l456, l580, l600, l800, l886, l1206, l1526, J_add, J_sub, J_mul, J_neg, J_lt, J_le, J_eq, jT, jF, iT, iF, eT, eF, aT, aF, ite_true, ite_false, ite_not, bs]
        · simp (disch := omega) only [m_X12_readAsking, j_X12_readAsking_159, rc_ok H.tag, e3, zb0, lm8, lm2, lm1, l0, l1, l2, l3, l4, l5, l6, l7, l8, l9, l10, l11, l12, l13, l14, l15, l16, l17, l18, l19, l20, l21, l22, l23, l24, l25, l27, l31, l32, l40, l46, l48, l50, l57, l59, l63, l86, l96, l97, l100, l110, l114, l122, l127, l200, l255, l300, l319, l320, l340, l441, l456, l580, l600, l800, l886, l1206, l1526, J_add, J_sub, J_mul, J_neg, J_lt, J_le, J_eq, jT, jF, iT, iF, eT, eF, aT, aF, ite_true, ite_false, ite_not, bs]
        · simp (disch := omega) only [m_X12_readAsking, j_X12_readAsking_159, rc_ok H.tag, e3, zb0, lm8, lm2, lm1, l0, l1, l2, l3, l4, l5, l6, l7, l8, l9, l10, l11, l12, l13, l14, l15, l16, l17, l18, l19, l20, l21, l22, l23, l24, l25, l27, l31, l32, l40, l46, l48, l50, l57, l59, l63, l86, l96, l97, l100, l110, l114, l122, l127, l200, l255, l300, l319, l320, l340, l441, l456, l580, l600, l800, l886, l1206, l1526, J_add, J_sub, J_mul, J_neg, J_lt, J_le, J_eq, jT, jF, iT, iF, eT, eF, aT, aF, ite_true, ite_false, ite_not, bs]
        · simp (disch := omega) only [m_X12_readAsking, j_X12_readAsking_129, j_X12_readAsking_158, rc_ok H.tag, e3, zb0, lm8, lm2, lm1, l0, l1, l2, l3, l4, l5, l6, l7, l8, l9, l10, l11, l12, l13, l14, l15, l16, l17, l18, l19, l20, l21, l22, l23, l24, l25, l27, l31, l32, l40, l46, l48, l50, l57, l59, l63, l86, l96, l97, l100, l110, l114, l122, l127, l200, l255, l300, l319, l320, l340, l441, l456, l580, l600, l800, l886, l1206, l1526, J_add, J_sub, J_mul, J_neg, J_lt, J_le, J_eq, jT, jF, iT, iF, eT, eF, aT, aF, ite_true, ite_false, ite_not, bs]
        · simp (disch := omega) only [m_X12_readAsking, j_X12_readAsking_129, j_X12_readAsking_158, rc_ok H.tag, e3, zb0, lm8, lm2, lm1, l0, l1, l2, l3, l4, l5, l6, l7, l8, l9, l10, l11, l12, l13, l14, l15, l16, l17, l18, l19, l20, l21, l22, l23, l24, l25, l27, l31, l32, l40, l46, l48, l50, l57, l59, l63, l86, l96, l97, l100, l110, l114, l122, l127, l200, l255, l300, l319, l320, l340, l441, l456, l580, l600, l800, l886, l1206, l1526, J_add, J_sub, J_mul, J_neg, J_lt, J_le, J_eq, jT, jF, iT, iF, eT, eF, aT, aF, ite_true, ite_false, ite_not, bs]
      · by_cases k5 : k ≤ 5
        · refine ⟨1, g3, ?_, win h g3 S' N3 Ft a k5⟩
          have : k = 3 ∨ k = 4 ∨ k = 5 := by omega
          rcases this with y | y | y <;> rw [y]
          · simp (disch := omega) only [m_X12_readAsking, j_X12_readAsking_159, rc_ok H.tag, e3, zb1, lm8, lm2, lm1, l0, l1, l2, l3, l4, l5, l6, l7, l8, l9, l10, l11, l12, l13, l14, l15, l16, l17, l18, l19, l20, l21, l22, l23, l24, l25, l27, l31, l32, l40, l46, l48, l50, l57, l59, l63, l86, l96, l97, l100, l110, l114, l122, l127, l200, l255, l300, l319, l320, l340, l441, l456, l580, l600, l800, l886, l1206, l1526, J_add, J_sub, J_mul, J_neg, J_lt, J_le, J_eq, jT, jF, iT, iF, eT, eF, aT, aF, ite_true, ite_false, ite_not, bs]
          · simp (disch := omega) only [m_X12_readAsking, j_X12_readAsking_159, rc_ok H.tag, e3, zb1, lm8, lm2, lm1, l0, l1, l2, l3, l4, l5, l6, l7, l8, l9, l10, l11, l12, l13, l14, l15, l16, l17, l18, l19, l20, l21, l22, l23, l24, l25, l27, l31, l32, l40, l46, l48, l50, l57, l59, l63, l86, l96, l97, l100, l110, l114, l122, l127, l200, l255, l300, l319, l320, l340, l441, l456, l580, l600, l800, l886, l1206, l1526, J_add, J_sub, J_mul, J_neg, J_lt, J_le, J_eq, jT, jF, iT, iF, eT, eF, aT, aF, ite_true, ite_false, ite_not, bs]
          · simp (disch := omega) only [m_X12_readAsking, j_X12_readAsking_159, rc_ok H.tag, e3, zb1, lm8, lm2, lm1, l0, l1, l2, l3, l4, l5, l6, l7, l8, l9, l10, l11, l12, l13, l14, l15, l16, l17, l18, l19, l20, l21, l22, l23, l24, l25, l27, l31, l32, l40, l46, l48, l50, l57, l59, l63, l86, l96, l97, l100, l110, l114, l122, l127, l200, l255, l300, l319, l320, l340, l441, l456, l580, l600, l800, l886, l1206, l1526, J_add, J_sub, J_mul, J_neg, J_lt, J_le, J_eq, jT, jF, iT, iF, eT, eF, aT, aF, ite_true, ite_false, ite_not, bs]
        · rw [if_neg k5] at nC
          have H3 := N3.rp H
          have cn : cnK k 1 = 2 := by
            unfold cnK
            rw [if_neg (by omega)]
          by_cases q : ckF B L (tkI B L f 2) = 2
          · obtain ⟨g4, e4, N4, Ft4⟩ := N3.one2 H f0 fL (by omega) (by omega) (by rw [vp, wC]; exact q) (by omega) (by omega) o0 o8 (lo := 0) (hi := own - 1) (by
              unfold loV
              rw [if_neg (by omega)]) (by
              unfold hiV
              rw [if_neg (by omega), if_neg (by omega), if_neg (by omega), if_neg (by omega), if_neg (by omega)])
            have e4 : m_X12_take o (J 2) (J 0) (J (own - 1)) g3 = some (J 1, g4) := e4
            have N4 : RNs h g4 o B L f k (min E (min (e2u B L f k (wCk k)) (e3u B L f k 100 (wCk k)))) own (gdU B L f k 1 (wCk k)) 1 2 := N4
            have mi := mi_all (B := B) (L := L) (f := f) (k := k) (fun j j0 j1 => by
              by_cases y : j < 1
              · exact a j j0 (by omega)
              · rw [show j = 1 by omega, cn]
                exact q)
            have W : LnW B L f k := ⟨⟨f0, fL, hL⟩, ⟨by omega, by omega⟩, mi.1⟩
            have z0 := N4.2.2.2.2 0 (by omega) (by omega)
            have z1 := N4.2.2.2.2 1 (by omega) (by omega)
            refine ⟨1, g4, ?_, Or.inr ⟨rfl, mi.1, ?_, ?_, ?_⟩⟩
            · have : k = 6 ∨ k = 7 := by omega
              rcases this with y | y <;> rw [y]
              · simp (disch := omega) only [m_X12_readAsking, j_X12_readAsking_129, j_X12_readAsking_158, rc_ok H.tag, e3, rc_ok H3.tag, e4, zb1, lm8, lm2, lm1, l0, l1, l2, l3, l4, l5, l6, l7, l8, l9, l10, l11, l12, l13, l14, l15, l16, l17, l18, l19, l20, l21, l22, l23, l24, l25, l27, l31, l32, l40, l46, l48, l50, l57, l59, l63, l86, l96, l97, l100, l110, l114, l122, l127, l200, l255, l300, l319, l320, l340, l441, l456, l580, l600, l800, l886, l1206, l1526, J_add, J_sub, J_mul, J_neg, J_lt, J_le, J_eq, jT, jF, iT, iF, eT, eF, aT, aF, ite_true, ite_false, ite_not, bs]
              · simp (disch := omega) only [m_X12_readAsking, j_X12_readAsking_129, j_X12_readAsking_158, rc_ok H.tag, e3, rc_ok H3.tag, e4, zb1, lm8, lm2, lm1, l0, l1, l2, l3, l4, l5, l6, l7, l8, l9, l10, l11, l12, l13, l14, l15, l16, l17, l18, l19, l20, l21, l22, l23, l24, l25, l27, l31, l32, l40, l46, l48, l50, l57, l59, l63, l86, l96, l97, l100, l110, l114, l122, l127, l200, l255, l300, l319, l320, l340, l441, l456, l580, l600, l800, l886, l1206, l1526, J_add, J_sub, J_mul, J_neg, J_lt, J_le, J_eq, jT, jF, iT, iF, eT, eF, aT, aF, ite_true, ite_false, ite_not, bs]
            · rw [if_neg c0]
              exact mixdone S' (by rw [nC]; exact N4) W cm
            · unfold qaF
              rw [if_neg c0]
              exact z0
            · unfold qbF
              rw [if_pos (by omega)]
              exact z1
          · obtain ⟨g4, e4, F4, v4⟩ := N3.fail H (by rw [vp, wC]; exact q) (x := J 2) (y := J 0) (z := J (own - 1))
            refine ⟨0, g4, ?_, fail g4 1 (by omega) (by omega) (fun j j0 j1 => a j j0 (by omega)) (by rw [cn]; exact q) F4 (by rw [v4, vp, wC]; rfl)⟩
            have : k = 6 ∨ k = 7 := by omega
            rcases this with y | y <;> rw [y]
            · simp (disch := omega) only [m_X12_readAsking, j_X12_readAsking_129, j_X12_readAsking_158, rc_ok H.tag, e3, rc_ok H3.tag, e4, zb0, lm8, lm2, lm1, l0, l1, l2, l3, l4, l5, l6, l7, l8, l9, l10, l11, l12, l13, l14, l15, l16, l17, l18, l19, l20, l21, l22, l23, l24, l25, l27, l31, l32, l40, l46, l48, l50, l57, l59, l63, l86, l96, l97, l100, l110, l114, l122, l127, l200, l255, l300, l319, l320, l340, l441, l456, l580, l600, l800, l886, l1206, l1526, J_add, J_sub, J_mul, J_neg, J_lt, J_le, J_eq, jT, jF, iT, iF, eT, eF, aT, aF, ite_true, ite_false, ite_not, bs]
            · simp (disch := omega) only [m_X12_readAsking, j_X12_readAsking_129, j_X12_readAsking_158, rc_ok H.tag, e3, rc_ok H3.tag, e4, zb0, lm8, lm2, lm1, l0, l1, l2, l3, l4, l5, l6, l7, l8, l9, l10, l11, l12, l13, l14, l15, l16, l17, l18, l19, l20, l21, l22, l23, l24, l25, l27, l31, l32, l40, l46, l48, l50, l57, l59, l63, l86, l96, l97, l100, l110, l114, l122, l127, l200, l255, l300, l319, l320, l340, l441, l456, l580, l600, l800, l886, l1206, l1526, J_add, J_sub, J_mul, J_neg, J_lt, J_le, J_eq, jT, jF, iT, iF, eT, eF, aT, aF, ite_true, ite_false, ite_not, bs]
end RAq
