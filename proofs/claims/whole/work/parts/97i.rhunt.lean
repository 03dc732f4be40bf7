/-! PURE PART: a line of a hunt, the reference -/
section RHu
variable {h h0 : Hp} {o : Nat} {B : Int → Int} {L f k E own : Int} {U : Int → Int}
theorem RK.huntTail (H : RP h o B L) (W : LnW B L f k) (k13 : 13 ≤ k) (o0 : 0 ≤ own) (o8 : own ≤ 8) (w1 : hE h (o + 10) 1 = viF B L f k 0) (w2 : hE h (o + 10) 2 = viF B L f k 1) {X : Int} (eE : E ≤ 9999) (hX : X = min E (elUo B L own f k)) (D : (0 ≤ hE h (o + 9) 0 ∧ hE h (o + 9) 0 ≤ 8) ∧ (E = 9999 → HWf U ∧ own = U 0 ∧ ∀ i, 0 ≤ i → i < 25 → hE h (o + 9) i = U i)) : ∃ h', j_X12_huntLine_87 o (J own) (o + 10) (J 0) (J (if k = 13 then 1 else 0)) h = some (J 1, h') ∧ FR (fun b _ => b = o + 9 ∨ b = o + 10) h h' ∧ RDu h' o X (stpU B L U f k) := by
  have k14 := W.2.1.2
  have hL := H.2.1.2.1
  have nk : nCk k = 2 := by
    unfold nCk
    rw [if_neg (by omega), if_neg (by omega), if_neg (by omega), if_neg (by omega), if_neg (by omega), if_neg (by omega)]
  have n1 := (W.num (j := 0) (by omega) (by omega)).2
  have n2 := (W.num (j := 1) (by omega) (by omega)).2
  have s0 : asI h (o + 10) (J 0) (J (if k = 13 then 1 else 0)) = some (wE h (o + 10) 0 (if k = 13 then 1 else 0)) := asI_ok H.1.a19 (by omega) (by omega) (by omega)
  have F0 : FR (fun b k => b = o + 10 ∧ k = 0) h (wE h (o + 10) 0 (if k = 13 then 1 else 0)) := FR.wE (A := fun b k => b = o + 10 ∧ k = 0) ⟨rfl, rfl⟩
  have z0 : hE (wE h (o + 10) 0 (if k = 13 then 1 else 0)) (o + 10) 0 = (if k = 13 then 1 else 0) := by rw [hE_wE (by omega) (by omega) (by split <;> omega) (by split <;> omega), if_pos ⟨rfl, rfl⟩]
  generalize wE h (o + 10) 0 (if k = 13 then 1 else 0) = g0 at *
  have T0 : TR (top g0) o := by rw [F0.1]; exact H.1
  have cell : ∀ i : Int, 0 ≤ i → i < 3 → (-1000 ≤ hE g0 (o + 10) i ∧ hE g0 (o + 10) i ≤ 1000) ∧ hE g0 (o + 10) i = stpU B L U f k (1 + 3 * U 0 + i) ∨ U 0 < 0 := fun i i0 i1 => by
    by_cases u : U 0 < 0
    · exact Or.inr u
    · refine Or.inl ?_
      have : i = 0 ∨ i = 1 ∨ i = 2 := by omega
      rcases this with q | q | q <;> rw [q]
      · rw [z0, Int.add_zero, stpU_a (by omega)]
        exact ⟨by split <;> omega, rfl⟩
      · rw [F0.e (by omega), w1, stpU_b (by omega)]
        exact ⟨by omega, rfl⟩
      · rw [F0.e (by omega), w2, stpU_c (by omega)]
        exact ⟨by omega, rfl⟩
  have rgc : ∀ i : Int, 0 ≤ i → i < 3 → -1000 ≤ hE g0 (o + 10) i ∧ hE g0 (o + 10) i ≤ 1000 := fun i i0 i1 => by
    have : i = 0 ∨ i = 1 ∨ i = 2 := by omega
    rcases this with q | q | q <;> rw [q]
    · rw [z0]
      split <;> omega
    · rw [F0.e (by omega), w1]
      omega
    · rw [F0.e (by omega), w2]
      omega
  obtain ⟨s, ⟨g, rfl, F, cn, co⟩, el⟩ := loop_ex (body := fun (k_ : Int32 × Hp → Option (Int32 × Hp)) (s : Int32 × Hp) => b_X12_huntLine_91 o (J own) (fun hz1 => j_X12_huntLine_131 o (J own) hz1) (fun v5q hq => k_ (v5q, hq)) s.1 s.2) (s := (J 0, g0)) (fun i s => ∃ g, s = (J i, g) ∧ FR (fun b _ => b = o + 9) g0 g ∧ (∀ j, 0 ≤ j → j < i → hE g (o + 9) (1 + 3 * own + j) = hE g0 (o + 10) j) ∧ (∀ c, 0 ≤ c → (c < 1 + 3 * own ∨ 1 + 3 * own + 3 ≤ c) → hE g (o + 9) c = hE g0 (o + 9) c)) (fun s => j_X12_huntLine_131 o (J own) s.2) (if own < 8 then 3 else 0) (by split <;> omega) (by split <;> omega) ⟨g0, rfl, FR.refl _ _, fun j j0 j1 => by omega, fun c _ _ => rfl⟩ (by
    rintro k_ i s i0 i1 ⟨g, rfl, F, cn, co⟩
    have u8 : own < 8 := by
      by_cases q : own < 8
      · exact q
      · rw [if_neg q] at i1
        omega
    rw [if_pos u8] at i1
    have z := rgc i i0 i1
    have tr : TR (top g) o := by rw [F.1]; exact T0
    have a1 : alI g (o + 10) (J i) = some (J (hE g0 (o + 10) i)) := by rw [alI_ok tr.a19 (by omega) (by omega) (by omega), F.e (by omega)]
    obtain ⟨v, hv⟩ : ∃ v, hE g0 (o + 10) i = v := ⟨_, rfl⟩
    rw [hv] at a1 z
    have s1 : asI g (o + 9) (J (1 + 3 * own + i)) (J v) = some (wE g (o + 9) (1 + 3 * own + i) v) := asI_ok tr.a18 (by omega) (by omega) (by omega)
    have F1 : FR (fun b _ => b = o + 9) g (wE g (o + 9) (1 + 3 * own + i) v) := FR.wE (A := fun b _ => b = o + 9) rfl
    refine ⟨(J (i + 1), wE g (o + 9) (1 + 3 * own + i) v), ⟨_, rfl, F.trans F1, fun j j0 j1 => ?_, fun c c0 c1 => ?_⟩, ?_⟩
    · rw [hE_wE (by omega) (by omega) (by omega) (by omega)]
      by_cases q : j = i
      · rw [if_pos ⟨rfl, by omega⟩, q]
        exact hv.symm
      · rw [if_neg (by omega), cn j j0 (by omega)]
    · rw [hE_wE (by omega) c0 (by omega) (by omega), if_neg (by omega), co c c0 c1]
    · show b_X12_huntLine_91 o (J own) (fun hz1 => j_X12_huntLine_131 o (J own) hz1) (fun v5q hq => k_ (v5q, hq)) (J i) g = _
      simp (disch := omega) only [b_X12_huntLine_91, tr.r18, tr.r19, a1, s1, lm8, lm2, lm1, l0, l1, l2, l3, l4, l5, l6, l7, l8, l9, l10, l11, l12, l13, l14, l15, l16, l17, l18, l19, l20, l21, l22, l23, l24, l25, l27, l31, l32, l40, l46, l48, l50, l57, l59, l63, l86, l96, l97, l100, l110, l114, l122, l127, l200, l255, l300, l319, l320, l340, l441, l456, l580, l600, l800, l886, l1206, l1526, J_add, J_sub, J_mul, J_neg, J_lt, J_le, J_eq, jT, jF, iT, iF, eT, eF, aT, aF, ite_true, ite_false, ite_not, bs]) (by
    rintro k_ s ⟨g, rfl, F, -⟩
    show b_X12_huntLine_91 o (J own) (fun hz1 => j_X12_huntLine_131 o (J own) hz1) (fun v5q hq => k_ (v5q, hq)) (J (if own < 8 then 3 else 0)) g = _
    by_cases q : own < 8
    · rw [if_pos q]
      simp (disch := omega) only [b_X12_huntLine_91, lm8, lm2, lm1, l0, l1, l2, l3, l4, l5, l6, l7, l8, l9, l10, l11, l12, l13, l14, l15, l16, l17, l18, l19, l20, l21, l22, l23, l24, l25, l27, l31, l32, l40, l46, l48, l50, l57, l59, l63, l86, l96, l97, l100, l110, l114, l122, l127, l200, l255, l300, l319, l320, l340, l441, l456, l580, l600, l800, l886, l1206, l1526, J_add, J_sub, J_mul, J_neg, J_lt, J_le, J_eq, jT, jF, iT, iF, eT, eF, aT, aF, ite_true, ite_false, ite_not, bs]
    · rw [if_neg q]
      simp (disch := omega) only [b_X12_huntLine_91, lm8, lm2, lm1, l0, l1, l2, l3, l4, l5, l6, l7, l8, l9, l10, l11, l12, l13, l14, l15, l16, l17, l18, l19, l20, l21, l22, l23, l24, l25, l27, l31, l32, l40, l46, l48, l50, l57, l59, l63, l86, l96, l97, l100, l110, l114, l122, l127, l200, l255, l300, l319, l320, l340, l441, l456, l580, l600, l800, l886, l1206, l1526, J_add, J_sub, J_mul, J_neg, J_lt, J_le, J_eq, jT, jF, iT, iF, eT, eF, aT, aF, ite_true, ite_false, ite_not, bs])
  have tr : TR (top g) o := by rw [F.1]; exact T0
  have s1 : asI g (o + 9) (J 0) (J (min 8 (own + 1))) = some (wE g (o + 9) 0 (min 8 (own + 1))) := asI_ok tr.a18 (by omega) (by omega) (by omega)
  have F1 : FR (fun b _ => b = o + 9) g (wE g (o + 9) 0 (min 8 (own + 1))) := FR.wE (A := fun b _ => b = o + 9) rfl
  have ls : m_X12_lesser (J 8) (J (own + 1)) g = some (J (min 8 (own + 1))) := X12_lesser_ok (by omega) (by omega) (by omega) (by omega)
  have c0 : ∀ c, 0 ≤ c → hE (wE g (o + 9) 0 (min 8 (own + 1))) (o + 9) c = if c = 0 then min 8 (own + 1) else hE g (o + 9) c := fun c hc => by
    rw [hE_wE (by omega) hc (by omega) (by omega)]
    by_cases q : c = 0
    · rw [if_pos ⟨rfl, q⟩, if_pos q]
    · rw [if_neg (fun y => q y.2), if_neg q]
  have e5 : l_X12_huntLine_91 o (J own) (fun hz1 => j_X12_huntLine_131 o (J own) hz1) (J 0) g0 = j_X12_huntLine_131 o (J own) g := el
  refine ⟨_, ?_, ((F0.mono (fun b k q => Or.inr q.1)).trans (F.mono (fun b k q => Or.inl q))).trans (F1.mono (fun b k q => Or.inl q)), ?_, fun hE9 => ?_⟩
  · unfold j_X12_huntLine_87
    rw [s0, bs, show (0 : Int32) = J 0 from rfl, e5]
    simp (disch := omega) only [j_X12_huntLine_131, tr.r18, ls, s1, lm8, lm2, lm1, l0, l1, l2, l3, l4, l5, l6, l7, l8, l9, l10, l11, l12, l13, l14, l15, l16, l17, l18, l19, l20, l21, l22, l23, l24, l25, l27, l31, l32, l40, l46, l48, l50, l57, l59, l63, l86, l96, l97, l100, l110, l114, l122, l127, l200, l255, l300, l319, l320, l340, l441, l456, l580, l600, l800, l886, l1206, l1526, J_add, J_sub, J_mul, J_neg, J_lt, J_le, J_eq, jT, jF, iT, iF, eT, eF, aT, aF, ite_true, ite_false, ite_not, bs]
  · rw [c0 0 (by omega), if_pos rfl]
    omega
  · have xl : min E (elUo B L own f k) = 9999 := by rw [← hX]; exact hE9
    have lq : elUo B L own f k ≤ 9999 := by
      have : e2n B L f k 0 ≤ 9999 := bnU_le
      unfold elUo
      omega
    obtain ⟨wq, oq, cq⟩ := D.2 (by omega)
    have GU : GoodU B L U f k := elU_ok W (by
      have : elU B L U f k = elUo B L own f k := by rw [oq]; rfl
      rw [this]
      omega)
    refine ⟨GU.wf W wq k13, fun i i0 i1 => ?_⟩
    have g8 := GU.2
    have q0 := wq.1
    rw [if_pos (show own < 8 by omega)] at cn
    rw [c0 i i0]
    by_cases y0 : i = 0
    · rw [if_pos y0, y0, stpU_0]
      omega
    · rw [if_neg y0]
      by_cases y1 : 1 + 3 * own ≤ i ∧ i < 1 + 3 * own + 3
      · have := cn (i - (1 + 3 * own)) (by omega) (by omega)
        rw [show 1 + 3 * own + (i - (1 + 3 * own)) = i by omega] at this
        rw [this]
        rcases cell (i - (1 + 3 * own)) (by omega) (by omega) with q | q
        · rw [q.2, show 1 + 3 * U 0 + (i - (1 + 3 * own)) = i by omega]
        · omega
      · rw [co i i0 (by omega), F0.e (by omega), cq i i0 i1]
        unfold stpU
        rw [if_neg y0, if_neg (by omega), if_neg (by omega), if_neg (by omega)]
theorem RK.huntLine (K : RK h o B L f) (H : RP h o B L) (e : ENr h o E) (h22 : hE h o 22 = 1) (h21 : hE h o 21 = 0) (f0 : 0 ≤ f) (fl : f < L) (D : RDu h o E U) (hown : hE h (o + 9) 0 = own) : ∃ x h', m_X12_huntLine o (ltF B L f) (J f) h = some (J x, h') ∧ RXx h h' o B L 2 f x (fun k g => ENr g o (min E (elUo B L own f k)) ∧ RDu g o (min E (elUo B L own f k)) (stpU B L U f k)) := by
  have hL := H.2.1.2.1
  have fL : f ≤ L := by omega
  have T := H.1
  have or := D.1
  rw [hown] at or
  have eE := e.le
  have hc : ckF B L f ≠ 0 := fun q => by
    have := (ck_0 (B := B) (L := L) (f := f)).mp q
    omega
  have so : ∀ j, 0 ≤ j → j < 15 → soK j = 2 → j = 13 ∨ j = 14 := fun j j0 j1 q => by
    unfold soK at q
    split at q
    · omega
    · split at q <;> omega
  have c13 : (lg_cmp (ltF B L f) (26990 : Int64) = 0) = (kwQ B L f 13 = true) := cmp_kw (k := 13) (by omega) (by omega) (by omega) (by rw [show kwV 13 = 26990 from kwv (k := 13) (by omega) rfl]; rfl)
  have c14 : (lg_cmp (ltF B L f) (7304564 : Int64) = 0) = (kwQ B L f 14 = true) := cmp_kw (k := 14) (by omega) (by omega) (by omega) (by rw [show kwV 14 = 7304564 from kwv (k := 14) (by omega) rfl]; rfl)
  -- of either kind
  have go : ∀ k, 13 ≤ k → k ≤ 14 → liK B L 2 f = k → (kwQ B L f 13 = true ↔ k = 13) → ∃ x h', j_X12_huntLine_21 o (ltF B L f) (J f) h = some (J x, h') ∧ RXx h h' o B L 2 f x (fun k g => ENr g o (min E (elUo B L own f k)) ∧ RDu g o (min E (elUo B L own f k)) (stpU B L U f k)) := fun k k13 k14 hk hq => by
    have cw : wCk k = 0 := by
      unfold wCk
      rw [if_neg (by omega), if_neg (by omega), if_neg (by omega)]
    have kr := kk_rg k
    have nk : nCk k = 2 := by
      unfold nCk
      rw [if_neg (by omega), if_neg (by omega), if_neg (by omega), if_neg (by omega), if_neg (by omega), if_neg (by omega)]
    have mo : moK k ≠ true := fun q => by
      have := of_decide_eq_true q
      omega
    have t0 : alI h (o + 9) (J 0) = some (J own) := by rw [alI_ok T.a18 (by omega) (by omega) (by omega), hown]
    have vp : ∀ j, vpF B L f k j = tkI B L f (1 + j) := fun j => vp_0 cw
    have fail : ∀ (g : Hp) (i : Int), 0 ≤ i → i < 2 → (∀ j, 0 ≤ j → j < i → ckF B L (tkI B L f (1 + j)) = 2) → ckF B L (tkI B L f (1 + i)) ≠ 2 → FR (Ard o) h g → hE g o 15 = tkI B L f (1 + i) → RXx h g o B L 2 f 0 (fun k g => ENr g o (min E (elUo B L own f k)) ∧ RDu g o (min E (elUo B L own f k)) (stpU B L U f k)) := fun g i i0 i1 a c F v => by
      have m := mi_at (B := B) (L := L) (f := f) (k := k) i0 (by omega) (fun j j0 j1 => by rw [cn_num cw j0]; exact a j j0 j1) (by rw [cn_num cw i0]; exact c)
      refine Or.inl ⟨rfl, ?_, F.mono (fun b k q => Or.inl q), ?_⟩
      · unfold loF
        rw [if_neg hc, hk, if_neg (by omega), if_neg (fun q => by omega)]
      · unfold leF
        rw [if_neg hc, hk, if_neg (by omega), m.2, v]
    have rest : ∀ (g : Hp) (X : Int), FR (Afr o) h g → ENr g o X → X = min E (if 8 ≤ own then 8 * f + 3 else 9999) → ∃ x h', j_X12_huntLine_42 o (ltF B L f) (J own) g = some (J x, h') ∧ RXx h h' o B L 2 f x (fun k g => ENr g o (min E (elUo B L own f k)) ∧ RDu g o (min E (elUo B L own f k)) (stpU B L U f k)) := fun g X F G hX => by
      have Fa : FR (Ard o) h g := F.mono (fun b k q => by unfold Afr at q; unfold Ard; omega)
      have Hg := H.ata Fa
      obtain ⟨g1, e1, F1, K1⟩ := (K.fr F (fun k hk => by unfold Afr; omega)).next Hg f0 (by omega)
      have F1' : FR (Ard o) g g1 := F1.mono (fun b k q => Ard_n q)
      have H1 := Hg.ata F1'
      have F01 := Fa.trans F1'
      have up : ∀ j : Int, (j = 21 ∨ j = 22) → hE g1 o j = hE h o j := fun j hj => by
        rw [F1.e (by unfold ARk; omega), F.e (by unfold Afr; omega)]
      have R0 : RNs g1 g1 o B L f k X 0 1 1 0 := RNs.start (by rw [vp]; exact K1) (G.frame F1 (by unfold ARk; omega) (by unfold ARk; omega)) (by rw [up 22 (by omega), h22])
      have lo0 : ∀ j : Int, (0 : Int) = loV k j := fun j => by
        unfold loV
        rw [if_neg (by omega)]
      have hi0 : (3 : Int) = hiV k 0 0 := by
        unfold hiV
        repeat' split
        all_goals omega
      have hi1 : (9 : Int) = hiV k 0 1 := by
        unfold hiV
        repeat' split
        all_goals omega
      by_cases q0 : ckF B L (tkI B L f 1) = 2
      · obtain ⟨g2, e2, R1⟩ := R0.one H1 f0 fL (by omega) (by omega) (by rw [vp]; exact q0) (by omega) (by omega) (by omega) (by omega) (lo0 0) hi0
        have e2 : m_X12_take o (J 1) (J 0) (J 3) g1 = some (J 1, g2) := e2
        have R1 : RNs g1 g2 o B L f k X 0 1 1 1 := R1
        have H2 := R1.rp H1
        by_cases q1 : ckF B L (tkI B L f 2) = 2
        · obtain ⟨g3, e3, R2⟩ := R1.one H1 f0 fL (by omega) (by omega) (by rw [vp]; exact q1) (by omega) (by omega) (by omega) (by omega) (lo0 1) hi1
          have e3 : m_X12_take o (J 2) (J 0) (J 9) g2 = some (J 1, g3) := e3
          have R2 : RNs g1 g3 o B L f k X 0 1 1 2 := R2
          have H3 := R2.rp H1
          have mi := mi_all (B := B) (L := L) (f := f) (k := k) (fun j j0 j1 => by
            rw [cn_num cw j0]
            have : j = 0 ∨ j = 1 := by omega
            rcases this with y | y <;> rw [y]
            · exact q0
            · exact q1)
          have W : LnW B L f k := ⟨⟨f0, fL, hL⟩, ⟨by omega, by omega⟩, mi.1⟩
          have RL := RNs.done (by rw [nk]; exact R2) H1 W mo cw (by rw [R2.1.e (by unfold Anm; omega), up 21 (by omega), h21])
          have F03 := F01.trans RL.1
          have w1 := RL.2.2.2.2.2.1 0 (by omega) (by omega)
          have w2 := RL.2.2.2.2.2.1 1 (by omega) (by omega)
          have xx : min X (elUo B L own f k) = min E (elUo B L own f k) := by
            rw [hX]
            unfold elUo
            generalize (if 8 ≤ own then 8 * f + 3 else 9999) = y
            omega
          obtain ⟨g4, e4, F4, D4⟩ := RK.huntTail (U := U) (E := X) (own := own) H3 W k13 or.1 or.2 w1 w2 (by omega) rfl ⟨by rw [F03.e (by unfold Ard; omega), hown]; exact or, fun q => by
            obtain ⟨d1, d2⟩ := D.2 (by omega)
            exact ⟨d1, by rw [← hown]; exact d2 0 (by omega) (by omega), fun i i0 i1 => by rw [F03.e (by unfold Ard; omega), d2 i i0 i1]⟩⟩
          rw [xx] at D4
          have E3 := RL.2.2.1
          have eX : min X (min (min (e2n B L f k 0) (e2w B L f k)) 9999) = min E (elUo B L own f k) := by
            rw [hX]
            unfold elUo
            generalize (if 8 ≤ own then 8 * f + 3 else 9999) = y
            omega
          rw [eX] at E3
          refine ⟨1, g4, ?_, Or.inr ⟨rfl, by omega, by rw [hk]; exact mi.1, (F03.mono (fun b k q => Or.inl q)).trans (F4.mono (fun b k q => by unfold Ard; omega)), ?_, by rw [hk]; exact ⟨E3.frame F4 (by omega) (by omega), D4⟩⟩⟩
          · have r19 := H3.1.r19
            by_cases y : k = 13
            · rw [if_pos y] at e4
              have c := c13.mpr (hq.mpr y)
              unfold j_X12_huntLine_42
              rw [rc_ok Hg.tag, e1, bs, rc_ok H1.tag, show (1 : Int32) = J 1 from rfl, show (0 : Int32) = J 0 from rfl, show (3 : Int32) = J 3 from rfl, e2, bs, if_neg (show ¬ (J 1 : Int32) = J 0 by decide), rc_ok H2.tag, show (2 : Int32) = J 2 from rfl, show (9 : Int32) = J 9 from rfl, e3, bs, if_pos (show ¬ (J 1 : Int32) = J 0 by decide), r19, bs, if_neg (fun q => q c)]
              exact e4
            · rw [if_neg y] at e4
              have c : ¬ lg_cmp (ltF B L f) (26990 : Int64) = 0 := fun q => y (hq.mp (c13.mp q))
              unfold j_X12_huntLine_42
              rw [rc_ok Hg.tag, e1, bs, rc_ok H1.tag, if_pos c, show (1 : Int32) = J 1 from rfl, show (0 : Int32) = J 0 from rfl, show (3 : Int32) = J 3 from rfl, e2, bs, if_neg (show ¬ (J 1 : Int32) = J 0 by decide), rc_ok H2.tag, show (2 : Int32) = J 2 from rfl, show (9 : Int32) = J 9 from rfl, e3, bs, if_pos (show ¬ (J 1 : Int32) = J 0 by decide), r19, bs]
              exact e4
          · have en : enF B L f k = 1 + shL k + exF B L f k := mi.2
            unfold leF
            rw [if_neg hc, hk, if_neg (by omega), en]
            exact RL.2.1.fr F4 (fun k hk => by omega)
        · obtain ⟨g3, e3, F3, v3⟩ := R1.fail H1 (by rw [vp]; exact q1) (x := J 2) (y := J 0) (z := J 9)
          refine ⟨0, g3, ?_, fail g3 1 (by omega) (by omega) (fun j j0 j1 => by rw [show j = 0 by omega]; exact q0) q1 (F01.trans F3) (by rw [v3, vp])⟩
          unfold j_X12_huntLine_42
          rw [rc_ok Hg.tag, e1, bs, rc_ok H1.tag, show (1 : Int32) = J 1 from rfl, show (0 : Int32) = J 0 from rfl, show (3 : Int32) = J 3 from rfl, e2, bs, if_neg (show ¬ (J 1 : Int32) = J 0 by decide), rc_ok H2.tag, show (2 : Int32) = J 2 from rfl, show (9 : Int32) = J 9 from rfl, e3, bs, if_neg (fun q => q rfl)]
      · obtain ⟨g2, e2, F2, v2⟩ := R0.fail H1 (by rw [vp]; exact q0) (x := J 1) (y := J 0) (z := J 3)
        refine ⟨0, g2, ?_, fail g2 0 (by omega) (by omega) (fun j j0 j1 => by omega) q0 (F01.trans F2) (by rw [v2, vp])⟩
        unfold j_X12_huntLine_42
        rw [rc_ok Hg.tag, e1, bs, rc_ok H1.tag, show (1 : Int32) = J 1 from rfl, show (0 : Int32) = J 0 from rfl, show (3 : Int32) = J 3 from rfl, e2, bs, if_pos rfl]
    have hd : j_X12_huntLine_21 o (ltF B L f) (J f) h = if ¬ J own = (8 : Int32) then j_X12_huntLine_42 o (ltF B L f) (J own) h else (rc h o 12 (m_X12_addsFault o (3 : Int32) (J f) h)).bind fun x3 => j_X12_huntLine_42 o (ltF B L f) (J own) x3 := by
      unfold j_X12_huntLine_21
      rw [T.r18, bs, show (0 : Int32) = J 0 from rfl, t0, bs]
    by_cases c8 : own = 8
    · obtain ⟨g, n1, F1, E1⟩ := e.note H.tag (s' := 3) (p' := f) (by omega) (by omega) (by omega) (by omega)
      obtain ⟨x, h', a1, a2⟩ := rest g _ F1 E1 (by rw [if_pos (by omega)])
      refine ⟨x, h', ?_, a2⟩
      rw [hd, if_neg (by rw [c8]; exact fun q => q rfl), rc_ok H.tag, show (3 : Int32) = J 3 from rfl, n1, bs]
      exact a1
    · obtain ⟨x, h', a1, a2⟩ := rest h _ (FR.refl _ _) e (by rw [if_neg (by omega)]; omega)
      refine ⟨x, h', ?_, a2⟩
      rw [hd, if_pos (by rw [show (8 : Int32) = J 8 from rfl, J_eq (by omega) (by omega) (by omega) (by omega)]; exact c8)]
      exact a1
  by_cases q13 : kwQ B L f 13 = true
  · have hk : liK B L 2 f = 13 := li_is (by omega) (by omega) rfl q13 (fun j j0 j1 js => by have := so j j0 (by omega) js; omega)
    obtain ⟨x, h', a1, a2⟩ := go 13 (by omega) (by omega) hk ⟨fun _ => rfl, fun _ => q13⟩
    refine ⟨x, h', ?_, a2⟩
    unfold m_X12_huntLine
    rw [if_pos (c13.mpr q13)]
    exact a1
  · have q13f : kwQ B L f 13 = false := by simpa using q13
    by_cases q14 : kwQ B L f 14 = true
    · have hk : liK B L 2 f = 14 := li_is (by omega) (by omega) rfl q14 (fun j j0 j1 js => by
        have := so j j0 (by omega) js
        rw [show j = 13 by omega]
        exact q13f)
      obtain ⟨x, h', a1, a2⟩ := go 14 (by omega) (by omega) hk ⟨fun q => absurd q q13, fun q => by omega⟩
      refine ⟨x, h', ?_, a2⟩
      unfold m_X12_huntLine
      rw [if_neg (fun q => q13 (c13.mp q)), if_pos (c14.mpr q14)]
      exact a1
    · have q14f : kwQ B L f 14 = false := by simpa using q14
      have hk : liK B L 2 f = -1 := li_no (fun j j0 j1 js => by
        have := so j j0 j1 js
        rcases this with q | q <;> rw [q]
        · exact q13f
        · exact q14f)
      obtain ⟨g, a1, F, v⟩ := K.fails H
      refine ⟨0, g, ?_, Or.inl ⟨rfl, ?_, F.mono (fun b k q => Or.inl (Ard_f q)), ?_⟩⟩
      · unfold m_X12_huntLine
        rw [if_neg (fun q => q13 (c13.mp q)), if_neg (fun q => q14 (c14.mp q)), rc_ok H.tag, a1, bs, zb0, bs]
      · unfold loF
        rw [if_neg hc, hk, if_pos rfl]
      · unfold leF
        rw [if_neg hc, hk, if_pos rfl]
        exact v
end RHu
