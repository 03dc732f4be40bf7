/-! PURE PART: a line of an archive, the reference -/
def Arl (o b k : Nat) : Prop := Ard o b k ∨ b = o + 9
def RAx (h0 h : Hp) (o : Nat) (B : Int → Int) (L : Int) (T : Int → Int) (f k E dt x : Int) : Prop := (x = 0 ∧ miF B L f k ≠ -1 ∧ FR (Arl o) h0 h ∧ hE h o 15 = tkI B L f (enF B L f k)) ∨ (x = 1 ∧ miF B L f k = -1 ∧ FR (Arl o) h0 h ∧ RK h o B L (tkI B L f (1 + shL k + exF B L f k)) ∧ ENr h o (min E (elA B L T f k)) ∧ RT h o (if min E (elA B L T f k) = 9999 then stpA B L T f k dt else T))
section RAl
variable {h h0 : Hp} {o : Nat} {B : Int → Int} {L f k E dt : Int} {T : Int → Int}
theorem RT.ard {h' : Hp} (H : RT h o T) (F : FR (Ard o) h h') : RT h' o T := ⟨by rw [F.1]; exact H.1, H.2.1, fun j j0 j1 => by rw [F.e (by unfold Ard; omega), H.2.2 j j0 j1]⟩
theorem RP.arl {h' : Hp} (H : RP h o B L) (F : FR (Arl o) h h') : RP h' o B L := by
  refine H.frame F ?_ (fun k => ?_) <;> · unfold Arl Ard; omega
theorem RK.changeLine (K : RK h o B L f) (H : RP h o B L) (HT : RT h o T) (e : ENr h o E) (h22 : hE h o 22 = 1) (h21 : hE h o 21 = 0) (h23 : hE h o 23 = dt) (f0 : 0 ≤ f) (fL : f ≤ L) (k9 : 9 ≤ k) (k12 : k ≤ 12) (h5 : LnW B L f k → nwF B L f k ≤ 20 → T 5 + nwF B L f k ≤ 319) : ∃ x h', m_X12_changeLine o (J (k - 9)) (J f) h = some (J x, h') ∧ RAx h h' o B L T f k E dt x := by
  have hL := H.2.1.2.1
  obtain ⟨g1, e1, F1, K1⟩ := K.next H f0 fL
  have F1' : FR (Ard o) h g1 := F1.mono (fun b k q => Ard_n q)
  have H1 := H.ata F1'
  have T1 := HT.ard F1'
  have E1 : ENr g1 o E := e.frame F1 (by unfold ARk; omega) (by unfold ARk; omega)
  obtain ⟨x, g2, e2, RX⟩ := RK.readChange (k := k) (f := f) K1 H1 T1 E1 (by rw [F1.e (by unfold ARk; omega), h22]) (by rw [F1.e (by unfold ARk; omega), h21]) f0 fL k9 k12
  rcases RX with ⟨x0, mi, F2, v⟩ | ⟨x1, mi, F2, K2, E2, v22, v21, vn, vw⟩
  · refine ⟨0, g2, ?_, Or.inl ⟨rfl, mi, (F1'.trans F2).mono (fun b k q => Or.inl q), v⟩⟩
    rw [x0] at e2
    simp (disch := omega) only [m_X12_changeLine, rc_ok H.tag, e1, rc_ok H1.tag, e2, lm8, lm2, lm1, l0, l1, l2, l3, l4, l5, l6, l7, l8, l9, l10, l11, l12, l13, l14, l15, l16, l17, l18, l19, l20, l21, l22, l23, l24, l25, l27, l31, l32, l40, l46, l48, l50, l57, l59, l63, l86, l96, l97, l100, l110, l114, l122, l127, l200, l255, l300, l319, l320, l340, l441, l456, l580, l600, l800, l886, l1206, l1526, J_add, J_sub, J_mul, J_neg, J_lt, J_le, J_eq, jT, jF, iT, iF, eT, eF, aT, aF, ite_true, ite_false, ite_not, bs]
  · rw [x1] at e2
    have W : LnW B L f k := ⟨⟨f0, fL, hL⟩, ⟨by omega, by omega⟩, mi⟩
    have F02 := F1'.trans F2
    have H2 := H.ata F02
    have T2 := HT.ard F02
    have cw : wCk k = 0 := by
      unfold wCk
      rw [if_neg (by omega), if_neg (by omega), if_neg (by omega)]
    have nC : nCk k = if k = 9 then 2 else if k ≤ 11 then 3 else 2 := by
      unfold nCk
      rw [if_neg (by omega), if_neg (by omega), if_neg (by omega), if_neg (by omega)]
    have nk : 2 ≤ nCk k := by
      rw [nC]
      repeat' split
      all_goals omega
    have n0 := (W.num (j := 0) (by omega) (by omega)).2
    have n1 := (W.num (j := 1) (by omega) (by omega)).2
    have w0 : hE g2 (o + 10) 0 = viF B L f k 0 := vn 0 (by omega) (by omega)
    have w1 : hE g2 (o + 10) 1 = viF B L f k 1 := vn 1 (by omega) (by omega)
    have w2 : 2 < nCk k → hE g2 (o + 10) 2 = viF B L f k 2 := fun q => vn 2 (by omega) q
    have v23 : hE g2 o 23 = dt := by rw [F02.e (by unfold Ard; omega), h23]
    have A0 := HT.2.1.n0
    have leA : elA B L T f k = min (min (e2n B L f k 0) (e2w B L f k)) (min (eFA B L T f k) (eWA B L T f k)) := rfl
    have hyF : eFA B L T f k = if min (e2n B L f k 0) (e2w B L f k) = 9999 then ftE T f k (viF B L f k 0) (viF B L f k 1) (viF B L f k 2) else 9999 := by
      unfold eFA
      rw [if_neg (by omega)]
    -- the version made
    have fin : ∀ g, FR (Afr o) g2 g → ENr g o (min E (elA B L T f k)) → ∃ h', j_X12_changeLine_91 o (J (k - 9)) g = some (J 1, h') ∧ RAx h h' o B L T f k E dt 1 := fun g F G => by
      have Fa : FR (Ard o) g2 g := F.mono (fun b k q => by unfold Afr at q; unfold Ard; omega)
      have Hg := H2.ata Fa
      have Tg := T2.ard Fa
      have Kg := K2.fr F (fun k hk => by unfold Afr; omega)
      have w0 : hE g (o + 10) 0 = viF B L f k 0 := by rw [F.e (by unfold Afr; omega), w0]
      have w1 : hE g (o + 10) 1 = viF B L f k 1 := by rw [F.e (by unfold Afr; omega), w1]
      have w2 : 2 < nCk k → hE g (o + 10) 2 = viF B L f k 2 := fun q => by rw [F.e (by unfold Afr; omega), w2 q]
      have v21 : hE g o 21 = nwF B L f k := by rw [F.e (by unfold Afr; omega), v21]
      have v23 : hE g o 23 = dt := by rw [F.e (by unfold Afr; omega), v23]
      obtain ⟨s, q1, q2, q3⟩ := G.is Hg.tag
      have F0g : FR (Arl o) h g := (F02.trans Fa).mono (fun b k q => Or.inl q)
      by_cases c : min E (elA B L T f k) = 9999
      · have s0 := q3.mpr c
        rw [s0] at q1
        have l1_ : elA B L T f k ≤ 9999 := by
          rw [leA]
          have : e2n B L f k 0 ≤ 9999 := bnU_le
          omega
        have GA := elA_ok W HT.2.1 (by omega) k12 (by omega)
        obtain ⟨g1_, g2_, _, g4⟩ := GA
        obtain ⟨⟨d0, d1⟩, v9, th, g5⟩ := g4 k9
        have hn := HT.2.1.2.1 _ d0 d1
        have hv : vvT T (viF B L f k 0) (T (1 + viF B L f k 0) - 1) := ⟨d0, d1, by omega, by omega⟩
        have mk : ∃ h', m_X12_makeVersion o (J (k - 9)) g = some h' ∧ FR (ATo o) g h' ∧ RT h' o (stpA B L T f k dt) := by
          unfold thB at th
          unfold stpA
          rw [if_neg (by omega)]
          by_cases c9 : k = 9
          · rw [if_pos c9]
            rw [if_pos (by omega)] at th
            have th := of_decide_eq_true th
            have g5 := g5 c9
            have hl := HT.2.1.ln hv
            have nw0 : 0 ≤ nwF B L f k := by
              have := ex_spec (B := B) (k := k) W.1.2.2 W.1.1 W.1.2.1
              unfold nwF
              omega
            have r := Tg.put (w := nwF B L f k) (c := 0) (dt := dt) w0 w1 hv v9 n1.1 th nw0 g5 (h5 W (by omega)) (fun i i0 i1 => (W.ok g2_ i0 i1).1) v21 (fun i i0 i1 => by rw [F.e (by unfold Afr; omega)]; exact vw i i0 i1 (W.ok g2_ i0 i1).2.2) v23
            rw [show k - 9 = 0 by omega]
            exact r
          · rw [if_neg c9]
            rw [if_neg (by omega)] at th
            by_cases c10 : k = 10
            · rw [if_pos c10]
              rw [if_pos (by omega)] at th
              have th := of_decide_eq_true th
              have nk3 : nCk k = 3 := by rw [c10]; rfl
              have n2 := (W.num (j := 2) (by omega) (by omega)).2
              have r := Tg.cut (ws := wnL B L f k) (dt := dt) w0 w1 (w2 (by omega)) hv v9 n1.1 n2.1 th v23
              rw [show k - 9 = 1 by omega]
              exact r
            · rw [if_neg c10]
              rw [if_neg (by omega)] at th
              by_cases c11 : k = 11
              · rw [if_pos c11]
                rw [if_pos (by omega)] at th
                have th := of_decide_eq_true th
                have nk3 : nCk k = 3 := by rw [c11]; rfl
                have n2 := (W.num (j := 2) (by omega) (by omega)).2
                have r := Tg.mov (ws := wnL B L f k) (dt := dt) w0 w1 (w2 (by omega)) hv v9 n1.1 th.1 n2.1 th.2 v23
                rw [show k - 9 = 2 by omega]
                exact r
              · rw [if_neg c11]
                rw [if_neg (by omega)] at th
                have th := of_decide_eq_true th
                have r := Tg.back (ws := wnL B L f k) (dt := dt) w0 w1 ⟨d0, d1, n1.1, th⟩ v9 v23
                rw [show k - 9 = 3 by omega]
                exact r
        obtain ⟨h', a1, a2, a3⟩ := mk
        refine ⟨h', ?_, Or.inr ⟨rfl, mi, F0g.trans (a2.mono (fun b k q => Or.inr q)), Kg.fr a2 (fun k hk => by unfold ATo; omega), G.frame a2 (by unfold ATo; omega) (by unfold ATo; omega), by rw [if_pos c]; exact a3⟩⟩
        simp (disch := omega) only [j_X12_changeLine_91, q1, rc_ok Hg.tag, a1, lm8, lm2, lm1, l0, l1, l2, l3, l4, l5, l6, l7, l8, l9, l10, l11, l12, l13, l14, l15, l16, l17, l18, l19, l20, l21, l22, l23, l24, l25, l27, l31, l32, l40, l46, l48, l50, l57, l59, l63, l86, l96, l97, l100, l110, l114, l122, l127, l200, l255, l300, l319, l320, l340, l441, l456, l580, l600, l800, l886, l1206, l1526, J_add, J_sub, J_mul, J_neg, J_lt, J_le, J_eq, jT, jF, iT, iF, eT, eF, aT, aF, ite_true, ite_false, ite_not, bs]
      · have s0 : s < 0 ∨ 0 < s := by omega
        refine ⟨g, ?_, Or.inr ⟨rfl, mi, F0g, Kg, G, by rw [if_neg c]; exact Tg⟩⟩
        simp (disch := first | omega | exact s0) only [j_X12_changeLine_91, q1, lm8, lm2, lm1, l0, l1, l2, l3, l4, l5, l6, l7, l8, l9, l10, l11, l12, l13, l14, l15, l16, l17, l18, l19, l20, l21, l22, l23, l24, l25, l27, l31, l32, l40, l46, l48, l50, l57, l59, l63, l86, l96, l97, l100, l110, l114, l122, l127, l200, l255, l300, l319, l320, l340, l441, l456, l580, l600, l800, l886, l1206, l1526, J_add, J_sub, J_mul, J_neg, J_lt, J_le, J_eq, jT, jF, iT, iF, eT, eF, aT, aF, ite_true, ite_false, ite_not, bs]
    have f22 : gfI g2 o 12 22 = some (J (if min (e2n B L f k 0) (e2w B L f k) = 9999 then 1 else 0)) := by rw [H2.fI]; exact congrArg (fun z => some (J z)) v22
    have t0 : alI g2 (o + 9) (J 0) = some (J (T 0)) := T2.told (by omega) (by omega)
    have r0 : alI g2 (o + 10) (J 0) = some (J (viF B L f k 0)) := by rw [alI_ok H2.1.a19 (by omega) (by omega) (by omega), w0]
    by_cases g : min (e2n B L f k 0) (e2w B L f k) = 9999
    · rw [if_pos g] at f22 hyF
      rw [g] at E2 leA
      have v3 : viF B L f k 0 ≤ 3 := by
        have lq1 : e2n B L f k 0 ≤ 9999 := bnU_le
        have a := (e2n_ok W (own := 0) (by omega) (j := 0) (by omega) (by omega)).2
        unfold hiV at a
        rw [if_neg (by omega)] at a
        repeat' split at a
        all_goals omega
      by_cases cd : viF B L f k 0 < T 0
      · have hn := HT.2.1.2.1 _ n0.1 cd
        have t1 : alI g2 (o + 9) (J (1 + viF B L f k 0)) = some (J (T (1 + viF B L f k 0))) := T2.told (by omega) (by omega)
        have hyT : ftE T f k (viF B L f k 0) (viF B L f k 1) (viF B L f k 2) = (if 10 ≤ T (1 + viF B L f k 0) then 8 * f + 3 else if thB T (k - 9) (viF B L f k 0) (viF B L f k 1) (viF B L f k 2) = true then 9999 else 8 * f + 4) := by
          unfold ftE
          rw [if_pos cd]
        by_cases c10 : T (1 + viF B L f k 0) = 10
        · rw [if_pos (by omega)] at hyT
          obtain ⟨g3, n3, F3, E3⟩ := E2.note H2.tag (s' := 3) (p' := f) (by omega) (by omega) (by omega) (by omega)
          obtain ⟨h', a1, a2⟩ := fin g3 F3 (by rw [leA, hyF, hyT, show min E (min 9999 (min (8 * f + 3) (eWA B L T f k))) = min (min E (min 9999 (eWA B L T f k))) (8 * f + 3) by generalize eWA B L T f k = y; omega]; exact E3)
          refine ⟨1, h', ?_, a2⟩
          rw [← a1]
          rw [c10] at t1
          generalize viF B L f k 0 = d at *
          simp (disch := omega) only [m_X12_changeLine, j_X12_changeLine_41, rc_ok H.tag, e1, rc_ok H1.tag, e2, f22, H2.1.r19, H2.1.r18, r0, t0, t1, rc_ok H2.tag, n3, lm8, lm2, lm1, l0, l1, l2, l3, l4, l5, l6, l7, l8, l9, l10, l11, l12, l13, l14, l15, l16, l17, l18, l19, l20, l21, l22, l23, l24, l25, l27, l31, l32, l40, l46, l48, l50, l57, l59, l63, l86, l96, l97, l100, l110, l114, l122, l127, l200, l255, l300, l319, l320, l340, l441, l456, l580, l600, l800, l886, l1206, l1526, J_add, J_sub, J_mul, J_neg, J_lt, J_le, J_eq, jT, jF, iT, iF, eT, eF, aT, aF, ite_true, ite_false, ite_not, bs]
        · rw [if_neg (by omega)] at hyT
          have c10' : T (1 + viF B L f k 0) < 10 ∨ 10 < T (1 + viF B L f k 0) := by omega
          obtain ⟨z, hz, hz2, hz3⟩ : ∃ z, hE g2 (o + 10) 2 = z ∧ thB T (k - 9) (viF B L f k 0) (viF B L f k 1) z = thB T (k - 9) (viF B L f k 0) (viF B L f k 1) (viF B L f k 2) ∧ (k - 9 = 1 ∨ k - 9 = 2 → 0 ≤ z ∧ z ≤ 100) := by
            by_cases q : 2 < nCk k
            · have n2 := (W.num (j := 2) (by omega) q).2
              exact ⟨_, w2 q, rfl, fun _ => by omega⟩
            · refine ⟨_, rfl, ?_, fun y => ?_⟩
              · unfold thB
                have : k = 9 ∨ k = 12 := by
                  rw [nC] at q
                  by_cases q9 : k = 9
                  · exact Or.inl q9
                  · rw [if_neg q9] at q
                    by_cases q11 : k ≤ 11
                    · rw [if_pos q11] at q
                      omega
                    · omega
                rcases this with y | y <;> rw [y] <;> rfl
              · exfalso
                rw [nC, if_neg (by omega), if_pos (by omega)] at q
                omega
          have it := T2.isThere (c := k - 9) ⟨by omega, by omega⟩ w0 w1 hz n0.1 cd n1.1 (by omega) hz3
          rw [hz2] at it
          by_cases ct : thB T (k - 9) (viF B L f k 0) (viF B L f k 1) (viF B L f k 2) = true
          · rw [if_pos ct] at hyT
            rw [ct] at it
            obtain ⟨h', a1, a2⟩ := fin g2 (FR.refl _ _) (by rw [leA, hyF, hyT, show min E (min 9999 (min 9999 (eWA B L T f k))) = min E (min 9999 (eWA B L T f k)) by generalize eWA B L T f k = y; omega]; exact E2)
            refine ⟨1, h', ?_, a2⟩
            rw [← a1]
            generalize viF B L f k 0 = d at *
            simp (disch := first | omega | exact c10') only [m_X12_changeLine, j_X12_changeLine_41, j_X12_changeLine_73, rc_ok H.tag, e1, rc_ok H1.tag, e2, f22, H2.1.r19, H2.1.r18, r0, t0, t1, rc_ok H2.tag, it, bI, bN, cond_true, lm8, lm2, lm1, l0, l1, l2, l3, l4, l5, l6, l7, l8, l9, l10, l11, l12, l13, l14, l15, l16, l17, l18, l19, l20, l21, l22, l23, l24, l25, l27, l31, l32, l40, l46, l48, l50, l57, l59, l63, l86, l96, l97, l100, l110, l114, l122, l127, l200, l255, l300, l319, l320, l340, l441, l456, l580, l600, l800, l886, l1206, l1526, J_add, J_sub, J_mul, J_neg, J_lt, J_le, J_eq, jT, jF, iT, iF, eT, eF, aT, aF, ite_true, ite_false, ite_not, bs]
          · rw [if_neg ct] at hyT
            have ct' : thB T (k - 9) (viF B L f k 0) (viF B L f k 1) (viF B L f k 2) = false := by simpa using ct
            rw [ct'] at it
            obtain ⟨g3, n3, F3, E3⟩ := E2.note H2.tag (s' := 4) (p' := f) (by omega) (by omega) (by omega) (by omega)
            obtain ⟨h', a1, a2⟩ := fin g3 F3 (by rw [leA, hyF, hyT, show min E (min 9999 (min (8 * f + 4) (eWA B L T f k))) = min (min E (min 9999 (eWA B L T f k))) (8 * f + 4) by generalize eWA B L T f k = y; omega]; exact E3)
            refine ⟨1, h', ?_, a2⟩
            rw [← a1]
            generalize viF B L f k 0 = d at *
            simp (disch := first | omega | exact c10') only [m_X12_changeLine, j_X12_changeLine_41, j_X12_changeLine_73, j_X12_changeLine_85, rc_ok H.tag, e1, rc_ok H1.tag, e2, f22, H2.1.r19, H2.1.r18, r0, t0, t1, rc_ok H2.tag, it, bI, bN, cond_false, n3, lm8, lm2, lm1, l0, l1, l2, l3, l4, l5, l6, l7, l8, l9, l10, l11, l12, l13, l14, l15, l16, l17, l18, l19, l20, l21, l22, l23, l24, l25, l27, l31, l32, l40, l46, l48, l50, l57, l59, l63, l86, l96, l97, l100, l110, l114, l122, l127, l200, l255, l300, l319, l320, l340, l441, l456, l580, l600, l800, l886, l1206, l1526, J_add, J_sub, J_mul, J_neg, J_lt, J_le, J_eq, jT, jF, iT, iF, eT, eF, aT, aF, ite_true, ite_false, ite_not, bs]
      · have hyT : ftE T f k (viF B L f k 0) (viF B L f k 1) (viF B L f k 2) = 8 * f + 4 := by
          unfold ftE
          rw [if_neg cd]
        obtain ⟨g3, n3, F3, E3⟩ := E2.note H2.tag (s' := 4) (p' := f) (by omega) (by omega) (by omega) (by omega)
        obtain ⟨h', a1, a2⟩ := fin g3 F3 (by rw [leA, hyF, hyT, show min E (min 9999 (min (8 * f + 4) (eWA B L T f k))) = min (min E (min 9999 (eWA B L T f k))) (8 * f + 4) by generalize eWA B L T f k = y; omega]; exact E3)
        refine ⟨1, h', ?_, a2⟩
        rw [← a1]
        generalize viF B L f k 0 = d at *
        simp (disch := omega) only [m_X12_changeLine, j_X12_changeLine_41, j_X12_changeLine_73, j_X12_changeLine_85, rc_ok H.tag, e1, rc_ok H1.tag, e2, f22, H2.1.r19, H2.1.r18, r0, t0, rc_ok H2.tag, n3, lm8, lm2, lm1, l0, l1, l2, l3, l4, l5, l6, l7, l8, l9, l10, l11, l12, l13, l14, l15, l16, l17, l18, l19, l20, l21, l22, l23, l24, l25, l27, l31, l32, l40, l46, l48, l50, l57, l59, l63, l86, l96, l97, l100, l110, l114, l122, l127, l200, l255, l300, l319, l320, l340, l441, l456, l580, l600, l800, l886, l1206, l1526, J_add, J_sub, J_mul, J_neg, J_lt, J_le, J_eq, jT, jF, iT, iF, eT, eF, aT, aF, ite_true, ite_false, ite_not, bs]
    · rw [if_neg g] at f22 hyF
      have lq1 : e2n B L f k 0 ≤ 9999 := bnU_le
      have lq2 := e2w_le W
      obtain ⟨h', a1, a2⟩ := fin g2 (FR.refl _ _) (by rw [leA, hyF, show min E (min (min (e2n B L f k 0) (e2w B L f k)) (min 9999 (eWA B L T f k))) = min E (min (min (e2n B L f k 0) (e2w B L f k)) (eWA B L T f k)) by generalize eWA B L T f k = y; omega]; exact E2)
      refine ⟨1, h', ?_, a2⟩
      rw [← a1]
      simp (disch := omega) only [m_X12_changeLine, rc_ok H.tag, e1, rc_ok H1.tag, e2, f22, lm8, lm2, lm1, l0, l1, l2, l3, l4, l5, l6, l7, l8, l9, l10, l11, l12, l13, l14, l15, l16, l17, l18, l19, l20, l21, l22, l23, l24, l25, l27, l31, l32, l40, l46, l48, l50, l57, l59, l63, l86, l96, l97, l100, l110, l114, l122, l127, l200, l255, l300, l319, l320, l340, l441, l456, l580, l600, l800, l886, l1206, l1526, J_add, J_sub, J_mul, J_neg, J_lt, J_le, J_eq, jT, jF, iT, iF, eT, eF, aT, aF, ite_true, ite_false, ite_not, bs]
end RAl
