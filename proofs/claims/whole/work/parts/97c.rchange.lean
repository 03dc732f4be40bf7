/-! PURE PART: the reference reads a change -/
section RCh
variable {h : Hp} {o : Nat} {B : Int → Int} {L f k E : Int} {T : Int → Int}
theorem X12_latest_ok (H : RT h o T) {d : Int} (d0 : 0 ≤ d) (d1 : d < T 0) : alI h (o + 9) (J (46 + (10 * d + (T (1 + d) - 1)))) = some (J (latT T d)) := by
  have h0 := H.2.1.n0
  have hn := H.2.1.2.1 d d0 d1
  unfold latT
  rw [if_pos d1]
  exact H.told (by omega) (by omega)
theorem RK.readChange (K : RK h o B L (tkI B L f 1)) (H : RP h o B L) (HT : RT h o T) (e : ENr h o E) (h22 : hE h o 22 = 1) (h21 : hE h o 21 = 0) (f0 : 0 ≤ f) (fL : f ≤ L) (k9 : 9 ≤ k) (k12 : k ≤ 12) : ∃ x h', m_X12_readChange o (J (k - 9)) h = some (J x, h') ∧ RLx h h' o B L f k E 0 0 (eWA B L T f k) x := by
  have hL := H.2.1.2.1
  have cw : wCk k = 0 := by
    unfold wCk
    rw [if_neg (by omega), if_neg (by omega), if_neg (by omega)]
  have kr := kk_rg k
  have nC : nCk k = if k = 9 then 2 else if k ≤ 11 then 3 else 2 := by
    unfold nCk
    rw [if_neg (by omega), if_neg (by omega), if_neg (by omega), if_neg (by omega)]
  have nk : 2 ≤ nCk k := by
    rw [nC]
    repeat' split
    all_goals omega
  have ck2 : ∀ j : Int, 0 ≤ j → (ckF B L (vpF B L f k j) = 2 ↔ ckF B L (tkI B L f (1 + j)) = cnK k j) := fun j j0 => by rw [vp_0 cw, cn_num cw j0]
  have R0 : RNs h h o B L f k E 0 1 0 0 := RNs.start (by rw [vp_0 cw]; exact K) e h22
  have w0 : ∀ (g : Hp) (i : Int), 0 ≤ i → i < nCk k → (∀ j, 0 ≤ j → j < i → ckF B L (vpF B L f k j) = 2) → ckF B L (vpF B L f k i) ≠ 2 → FR (Ard o) h g → hE g o 15 = vpF B L f k i → RLx h g o B L f k E 0 0 (eWA B L T f k) 0 := fun g i i0 i1 a c F v => by
    have m := mi_at (B := B) (L := L) (f := f) (k := k) i0 (by omega) (fun j j0 j1 => (ck2 j j0).mp (a j j0 j1)) (fun q => c ((ck2 i i0).mpr q))
    refine Or.inl ⟨rfl, by omega, F, ?_⟩
    rw [m.2, v, vp_0 cw]
  have wd : (∀ j, 0 ≤ j → j < nCk k → ckF B L (vpF B L f k j) = 2) → LnW B L f k := fun a => ⟨⟨f0, fL, hL⟩, ⟨by omega, by omega⟩, (mi_all (fun j j0 j1 => (ck2 j j0).mp (a j j0 (by omega)))).1⟩
  have dn : ∀ g, (∀ j, 0 ≤ j → j < nCk k → ckF B L (vpF B L f k j) = 2) → k ≠ 9 → RNs h g o B L f k E 0 1 0 (nCk k) → RLx h g o B L f k E 0 0 (eWA B L T f k) 1 := fun g a c9 R => by
    have W := wd a
    have mo : moK k ≠ true := fun q => by
      have := of_decide_eq_true q
      omega
    have ew : eWA B L T f k = 9999 := by
      unfold eWA
      rw [if_neg (by omega), if_neg c9]
    rw [ew]
    exact Or.inr ⟨rfl, W.2.2, R.done H W mo cw (by rw [R.1.e (by unfold Anm; omega), h21])⟩
  -- number 0
  by_cases c0 : ckF B L (vpF B L f k 0) = 2
  · have hv0 : (3 : Int) = hiV k 0 0 := by
      unfold hiV
      rw [if_neg (by omega)]
      repeat' split
      all_goals omega
    obtain ⟨g1, e1, R1⟩ := R0.one H f0 fL (by omega) (by omega) c0 (by omega) (by omega) (by omega) (by omega) (lo := 0) (hi := 3) (by unfold loV; rw [if_neg (by omega)]) hv0
    have e1 : m_X12_take o (J 0) (J 0) (J 3) h = some (J 1, g1) := e1
    have R1 : RNs h g1 o B L f k E 0 1 0 1 := R1
    have H1 := R1.rp H
    by_cases c1 : ckF B L (vpF B L f k 1) = 2
    · have hv1 : (if k = 9 then 20 else if k ≤ 11 then 19 else 9) = hiV k 0 1 := by
        unfold hiV
        repeat' split
        all_goals omega
      obtain ⟨g2, e2, R2⟩ := R1.one H f0 fL (by omega) (by omega) c1 (by omega) (by omega) (by omega) (by omega) (lo := 0) (hi := if k = 9 then 20 else if k ≤ 11 then 19 else 9) (by unfold loV; rw [if_neg (by omega)]) hv1
      have e2 : m_X12_take o (J 1) (J 0) (J (if k = 9 then 20 else if k ≤ 11 then 19 else 9)) g1 = some (J 1, g2) := e2
      have R2 : RNs h g2 o B L f k E 0 1 0 2 := R2
      have H2 := R2.rp H
      by_cases q9 : k = 9
      · -- put
        rw [if_pos q9] at e2
        have nC2 : nCk k = 2 := by rw [nC, if_pos q9]
        have W := wd (fun j j0 j1 => by
          have : j = 0 ∨ j = 1 := by omega
          rcases this with q | q <;> rw [q]
          · exact c0
          · exact c1)
        have cm : moK k = true := by unfold moK; exact decide_eq_true (by omega)
        have wo : wOk k = 2 := by unfold wOk; rw [if_pos q9]
        have n0 := (W.num (j := 0) (by omega) (by omega))
        have n1 := (W.num (j := 1) (by omega) (by omega))
        have tk1 := tk_rg (B := B) (i := 1) fL (by omega)
        have fl : f < L := by
          have c := ck_num c0 (by rw [vp_0 cw]; exact (tk_rg (B := B) fL (by omega)).2.1)
          have := n0.1.1
          omega
        have T2 : RT g2 o T := ⟨by rw [R2.1.1]; exact HT.1, HT.2.1, fun j j0 j1 => by rw [R2.1.e (by unfold Anm; omega), HT.2.2 j j0 j1]⟩
        have v0 : hE g2 (o + 10) 0 = viF B L f k 0 := by
          have := R2.2.2.2.2 0 (by omega) (by omega)
          exact this
        have e2n_ : bnU B L f k 0 (2 : Int).toNat = e2n B L f k 0 := by unfold e2n; rw [nC2]
        have g22 : hE g2 o 22 = if e2n B L f k 0 = 9999 then 1 else 0 := by rw [R2.2.2.2.1, e2n_]
        have En := R2.2.2.1
        rw [e2n_] at En
        -- the words from here on, m the most
        have fin : ∀ m : Int, 0 ≤ m → m ≤ 20 → (e2n B L f k 0 = 9999 → e3w B L f k m = eWA B L T f k) → ∃ h', m_X12_takeWords o (J m) g2 = some h' ∧ RLx h h' o B L f k E 0 0 (eWA B L T f k) 1 := fun m m0 m1 hm => by
          have S : RWd g2 g2 o B L f k (min E (e2n B L f k 0)) (if e2n B L f k 0 = 9999 then 1 else 0) m 0 := RWd.start (by
            have := R2.2.1
            rw [vp_0 cw] at this
            unfold wpF
            rw [wo]
            exact this) En g22 (by rw [R2.1.e (by unfold Anm; omega), h21]) m0
          have nw0 : 0 ≤ nwF B L f k := by
            have := ex_spec (B := B) (k := k) W.1.2.2 W.1.1 W.1.2.1
            unfold nwF
            omega
          obtain ⟨h', e3, G⟩ := S.all H2 W fl cm (by omega) nw0 m0 m1
          refine ⟨h', e3, Or.inr ⟨rfl, W.2.2, (R2.1.mono (fun b k q => Ard_m q)).trans (G.1.mono (fun b k q => Ard_l q)), ?_, ?_, ?_, G.2.2.2.2.1, fun j j0 j1 => ?_, G.2.2.2.2.2⟩⟩
          · have := G.2.1
            have e4 : wpF B L f k (nwF B L f k) = tkI B L f (1 + shL k + exF B L f k) := by
              unfold wpF nwF
              rw [mo_shL cm, show 1 + wOk k + (wCk k + exF B L f k) = 1 + (wOk k + wCk k) + exF B L f k by omega]
            rw [← e4]
            exact this
          · have := G.2.2.1
            have x2 : e2u B L f k (nwF B L f k) = e2w B L f k := rfl
            have x3 : e3u B L f k m (nwF B L f k) = e3w B L f k m := rfl
            rw [x2, x3] at this
            have key : min E (min (min (e2n B L f k 0) (e2w B L f k)) (eWA B L T f k)) = min (min E (e2n B L f k 0)) (min (e2w B L f k) (e3w B L f k m)) := by
              by_cases g : e2n B L f k 0 = 9999
              · rw [hm g]
                generalize e2n B L f k 0 = a
                generalize e2w B L f k = b
                generalize eWA B L T f k = c
                omega
              · have lo : e2n B L f k 0 ≤ 8 * vpF B L f k 1 + 2 := by
                  have a0 : bnE B L f k 0 0 = if viF B L f k 0 < loV k 0 ∨ hiV k 0 0 < viF B L f k 0 then 8 * vpF B L f k 0 + 2 else 9999 := rfl
                  have a1 : bnE B L f k 0 1 = if viF B L f k 1 < loV k 1 ∨ hiV k 0 1 < viF B L f k 1 then 8 * vpF B L f k 1 + 2 else 9999 := rfl
                  have a2 : e2n B L f k 0 = min (min 9999 (bnE B L f k 0 0)) (bnE B L f k 0 1) := by
                    unfold e2n
                    rw [nC2]
                    rfl
                  have mono : vpF B L f k 0 ≤ vpF B L f k 1 := by
                    unfold vpF
                    exact tk_le fL (by omega) (by omega)
                  rw [a2] at g ⊢
                  split at a0 <;> split at a1 <;> omega
                have far : ∀ j, 0 ≤ j → vpF B L f k 1 < wpF B L f k j := fun j j0 => by
                  rw [vp_0 cw]
                  unfold wpF
                  rw [wo]
                  rw [vp_0 cw] at c1
                  exact tk_lt fL (by omega) (by omega) (by omega)
                have b1 : e2n B L f k 0 ≤ e3w B L f k m := by
                  unfold e3w
                  have := far m m0
                  have := bnU_le (B := B) (L := L) (f := f) (k := k) (own := 0) (n := (nCk k).toNat)
                  have e9 : e2n B L f k 0 ≤ 9999 := this
                  split <;> omega
                have b2 : e2n B L f k 0 ≤ eWA B L T f k := by
                  unfold eWA
                  rw [if_neg (by omega), if_pos q9]
                  have ll := ll_rg HT.2.1 (d := viF B L f k 0) n0.2.1
                  have := far (20 - latT T (viF B L f k 0)) (by omega)
                  unfold e3w
                  have e9 : e2n B L f k 0 ≤ 9999 := bnU_le
                  split <;> omega
                generalize e2n B L f k 0 = a at *
                generalize e2w B L f k = b
                generalize eWA B L T f k = c at *
                generalize e3w B L f k m = d at *
                omega
            rw [key]
            exact this
          · rw [G.2.2.2.1]
            unfold gdU
            have ms := W.ms
            have w2 : e2w B L f k = if msF B L f k (nwF B L f k) = -1 then 9999 else 8 * msF B L f k (nwF B L f k) + 2 := rfl
            have e9 : e2n B L f k 0 ≤ 9999 := bnU_le
            by_cases q : msF B L f k (nwF B L f k) = -1
            · rw [if_pos q] at w2 ⊢
              rw [w2, show min (e2n B L f k 0) 9999 = e2n B L f k 0 by omega]
            · rw [if_neg q] at w2 ⊢
              rw [w2, if_neg (by omega)]
          · rw [G.1.e (by unfold Awl; omega)]
            exact R2.2.2.2.2 j j0 (by omega)
        have ea : ∀ x : Int, x = viF B L f k 0 → alI g2 (o + 10) (J 0) = some (J x) := fun x q => by
          rw [alI_ok T2.1.a19 (by omega) (by omega) (by omega), v0, q]
        have t0 : alI g2 (o + 9) (J 0) = some (J (T 0)) := T2.told (by omega) (by omega)
        have h0 := HT.2.1.n0
        have f22 : gfI g2 o 12 22 = some (J (if e2n B L f k 0 = 9999 then 1 else 0)) := by rw [H2.fI]; exact congrArg (fun z => some (J z)) g22
        have eW : eWA B L T f k = e3w B L f k (20 - latT T (viF B L f k 0)) := by
          unfold eWA
          rw [if_neg (by omega), if_pos q9]
        have main : ∃ h', m_X12_readPut o g1 = some (J 1, h') ∧ RLx h h' o B L f k E 0 0 (eWA B L T f k) 1 := by
          by_cases g : e2n B L f k 0 = 9999
          · rw [if_pos g] at f22
            have ll := ll_rg HT.2.1 (d := viF B L f k 0) n0.2.1
            obtain ⟨h', a1, a2⟩ := fin (20 - latT T (viF B L f k 0)) (by omega) (by omega) (fun _ => eW.symm)
            refine ⟨h', ?_, a2⟩
            by_cases d1 : viF B L f k 0 < T 0
            · have el := T2.latest n0.2.1 d1
              have e5 := X12_latest_ok T2 n0.2.1 d1
              have n02 := n0.2
              generalize viF B L f k 0 = d at *
              simp (disch := omega) only [m_X12_readPut, j_X12_readPut_57, rc_ok H1.tag, e2, f22, T2.1.r19, T2.1.r18, ea d rfl, t0, rc_ok H2.tag, el, e5, a1, lm8, lm2, lm1, l0, l1, l2, l3, l4, l5, l6, l7, l8, l9, l10, l11, l12, l13, l14, l15, l16, l17, l18, l19, l20, l21, l22, l23, l24, l25, l27, l31, l32, l40, l46, l48, l50, l57, l59, l63, l86, l96, l97, l100, l110, l114, l122, l127, l200, l255, l300, l319, l320, l340, l441, l456, l580, l600, l800, l886, l1206, l1526, J_add, J_sub, J_mul, J_neg, J_lt, J_le, J_eq, jT, jF, iT, iF, eT, eF, aT, aF, ite_true, ite_false, ite_not, bs]
            · have lz : latT T (viF B L f k 0) = 0 := if_neg d1
              rw [lz] at a1
              have n02 := n0.2
              generalize viF B L f k 0 = d at *
              simp (disch := omega) only [m_X12_readPut, j_X12_readPut_57, rc_ok H1.tag, e2, f22, T2.1.r19, T2.1.r18, ea d rfl, t0, rc_ok H2.tag, a1, lm8, lm2, lm1, l0, l1, l2, l3, l4, l5, l6, l7, l8, l9, l10, l11, l12, l13, l14, l15, l16, l17, l18, l19, l20, l21, l22, l23, l24, l25, l27, l31, l32, l40, l46, l48, l50, l57, l59, l63, l86, l96, l97, l100, l110, l114, l122, l127, l200, l255, l300, l319, l320, l340, l441, l456, l580, l600, l800, l886, l1206, l1526, J_add, J_sub, J_mul, J_neg, J_lt, J_le, J_eq, jT, jF, iT, iF, eT, eF, aT, aF, ite_true, ite_false, ite_not, bs]
          · rw [if_neg g] at f22
            obtain ⟨h', a1, a2⟩ := fin (20 - 0) (by omega) (by omega) (fun q => absurd q g)
            refine ⟨h', ?_, a2⟩
            simp (disch := omega) only [m_X12_readPut, j_X12_readPut_57, rc_ok H1.tag, e2, f22, rc_ok H2.tag, a1, lm8, lm2, lm1, l0, l1, l2, l3, l4, l5, l6, l7, l8, l9, l10, l11, l12, l13, l14, l15, l16, l17, l18, l19, l20, l21, l22, l23, l24, l25, l27, l31, l32, l40, l46, l48, l50, l57, l59, l63, l86, l96, l97, l100, l110, l114, l122, l127, l200, l255, l300, l319, l320, l340, l441, l456, l580, l600, l800, l886, l1206, l1526, J_add, J_sub, J_mul, J_neg, J_lt, J_le, J_eq, jT, jF, iT, iF, eT, eF, aT, aF, ite_true, ite_false, ite_not, bs]
        obtain ⟨h', a1, a2⟩ := main
        refine ⟨1, h', ?_, a2⟩
        rw [q9]
        simp (disch := omega) only [m_X12_readChange, rc_ok H.tag, e1, rc_ok H1.tag, a1, zb1, lm8, lm2, lm1, l0, l1, l2, l3, l4, l5, l6, l7, l8, l9, l10, l11, l12, l13, l14, l15, l16, l17, l18, l19, l20, l21, l22, l23, l24, l25, l27, l31, l32, l40, l46, l48, l50, l57, l59, l63, l86, l96, l97, l100, l110, l114, l122, l127, l200, l255, l300, l319, l320, l340, l441, l456, l580, l600, l800, l886, l1206, l1526, J_add, J_sub, J_mul, J_neg, J_lt, J_le, J_eq, jT, jF, iT, iF, eT, eF, aT, aF, ite_true, ite_false, ite_not, bs]
      · rw [if_neg q9] at e2
        rw [if_neg q9] at nC
        by_cases q11 : k ≤ 11
        · rw [if_pos q11] at e2 nC
          by_cases c2 : ckF B L (vpF B L f k 2) = 2
          · have hl2_ : (if k = 10 then 1 else 0) = loV k 2 := by
              unfold loV
              repeat' split
              all_goals omega
            have hv2 : (if k = 10 then 20 else 19) = hiV k 0 2 := by
              unfold hiV
              repeat' split
              all_goals omega
            obtain ⟨g3, e3, R3⟩ := R2.one H f0 fL (by omega) (by omega) c2 (by omega) (by omega) (by omega) (by omega) (lo := if k = 10 then 1 else 0) (hi := if k = 10 then 20 else 19) hl2_ hv2
            have e3 : m_X12_take o (J 2) (J (if k = 10 then 1 else 0)) (J (if k = 10 then 20 else 19)) g2 = some (J 1, g3) := e3
            have R3 : RNs h g3 o B L f k E 0 1 0 3 := R3
            refine ⟨1, g3, ?_, dn g3 (fun j j0 j1 => by
              have : j = 0 ∨ j = 1 ∨ j = 2 := by omega
              rcases this with q | q | q <;> rw [q]
              · exact c0
              · exact c1
              · exact c2) q9 (by rw [nC]; exact R3)⟩
            by_cases q : k = 10
            · rw [if_pos q, if_pos q] at e3
              rw [q]
              simp (disch := omega) only [m_X12_readChange, j_X12_readChange_72, rc_ok H.tag, e1, rc_ok H1.tag, e2, rc_ok H2.tag, e3, zb1, lm8, lm2, lm1, l0, l1, l2, l3, l4, l5, l6, l7, l8, l9, l10, l11, l12, l13, l14, l15, l16, l17, l18, l19, l20, l21, l22, l23, l24, l25, l27, l31, l32, l40, l46, l48, l50, l57, l59, l63, l86, l96, l97, l100, l110, l114, l122, l127, l200, l255, l300, l319, l320, l340, l441, l456, l580, l600, l800, l886, l1206, l1526, J_add, J_sub, J_mul, J_neg, J_lt, J_le, J_eq, jT, jF, iT, iF, eT, eF, aT, aF, ite_true, ite_false, ite_not, bs]
            · rw [if_neg q, if_neg q] at e3
              rw [show k = 11 by omega]
              simp (disch := omega) only [m_X12_readChange, j_X12_readChange_100, rc_ok H.tag, e1, rc_ok H1.tag, e2, rc_ok H2.tag, e3, zb1, lm8, lm2, lm1, l0, l1, l2, l3, l4, l5, l6, l7, l8, l9, l10, l11, l12, l13, l14, l15, l16, l17, l18, l19, l20, l21, l22, l23, l24, l25, l27, l31, l32, l40, l46, l48, l50, l57, l59, l63, l86, l96, l97, l100, l110, l114, l122, l127, l200, l255, l300, l319, l320, l340, l441, l456, l580, l600, l800, l886, l1206, l1526, J_add, J_sub, J_mul, J_neg, J_lt, J_le, J_eq, jT, jF, iT, iF, eT, eF, aT, aF, ite_true, ite_false, ite_not, bs]
          · by_cases q : k = 10
            · obtain ⟨g3, e3, F3, v3⟩ := R2.fail H c2 (x := J 2) (y := J 1) (z := J 20)
              refine ⟨0, g3, ?_, w0 g3 2 (by omega) (by omega) (fun j j0 j1 => by
                have : j = 0 ∨ j = 1 := by omega
                rcases this with q | q <;> rw [q]
                · exact c0
                · exact c1) c2 F3 v3⟩
              rw [q]
              simp (disch := omega) only [m_X12_readChange, j_X12_readChange_72, rc_ok H.tag, e1, rc_ok H1.tag, e2, rc_ok H2.tag, e3, zb0, lm8, lm2, lm1, l0, l1, l2, l3, l4, l5, l6, l7, l8, l9, l10, l11, l12, l13, l14, l15, l16, l17, l18, l19, l20, l21, l22, l23, l24, l25, l27, l31, l32, l40, l46, l48, l50, l57, l59, l63, l86, l96, l97, l100, l110, l114, l122, l127, l200, l255, l300, l319, l320, l340, l441, l456, l580, l600, l800, l886, l1206, l1526, J_add, J_sub, J_mul, J_neg, J_lt, J_le, J_eq, jT, jF, iT, iF, eT, eF, aT, aF, ite_true, ite_false, ite_not, bs]
            · obtain ⟨g3, e3, F3, v3⟩ := R2.fail H c2 (x := J 2) (y := J 0) (z := J 19)
              refine ⟨0, g3, ?_, w0 g3 2 (by omega) (by omega) (fun j j0 j1 => by
                have : j = 0 ∨ j = 1 := by omega
                rcases this with q | q <;> rw [q]
                · exact c0
                · exact c1) c2 F3 v3⟩
              rw [show k = 11 by omega]
              simp (disch := omega) only [m_X12_readChange, j_X12_readChange_100, rc_ok H.tag, e1, rc_ok H1.tag, e2, rc_ok H2.tag, e3, zb0, lm8, lm2, lm1, l0, l1, l2, l3, l4, l5, l6, l7, l8, l9, l10, l11, l12, l13, l14, l15, l16, l17, l18, l19, l20, l21, l22, l23, l24, l25, l27, l31, l32, l40, l46, l48, l50, l57, l59, l63, l86, l96, l97, l100, l110, l114, l122, l127, l200, l255, l300, l319, l320, l340, l441, l456, l580, l600, l800, l886, l1206, l1526, J_add, J_sub, J_mul, J_neg, J_lt, J_le, J_eq, jT, jF, iT, iF, eT, eF, aT, aF, ite_true, ite_false, ite_not, bs]
        · rw [if_neg q11] at e2 nC
          refine ⟨1, g2, ?_, dn g2 (fun j j0 j1 => by
            have : j = 0 ∨ j = 1 := by omega
            rcases this with q | q <;> rw [q]
            · exact c0
            · exact c1) q9 (by rw [nC]; exact R2)⟩
          rw [show k = 12 by omega]
          simp (disch := omega) only [m_X12_readChange, rc_ok H.tag, e1, rc_ok H1.tag, e2, zb1, lm8, lm2, lm1, l0, l1, l2, l3, l4, l5, l6, l7, l8, l9, l10, l11, l12, l13, l14, l15, l16, l17, l18, l19, l20, l21, l22, l23, l24, l25, l27, l31, l32, l40, l46, l48, l50, l57, l59, l63, l86, l96, l97, l100, l110, l114, l122, l127, l200, l255, l300, l319, l320, l340, l441, l456, l580, l600, l800, l886, l1206, l1526, J_add, J_sub, J_mul, J_neg, J_lt, J_le, J_eq, jT, jF, iT, iF, eT, eF, aT, aF, ite_true, ite_false, ite_not, bs]
    · have wx := fun g => w0 g 1 (by omega) (by omega) (fun j j0 j1 => by
        rw [show j = 0 by omega]
        exact c0) c1
      have : k = 9 ∨ k = 10 ∨ k = 11 ∨ k = 12 := by omega
      rcases this with q | q | q | q
      · obtain ⟨g2, e2, F2, v2⟩ := R1.fail H c1 (x := J 1) (y := J 0) (z := J 20)
        refine ⟨0, g2, ?_, wx g2 F2 v2⟩
        rw [q]
        simp (disch := omega) only [m_X12_readChange, m_X12_readPut, rc_ok H.tag, e1, rc_ok H1.tag, e2, zb0, lm8, lm2, lm1, l0, l1, l2, l3, l4, l5, l6, l7, l8, l9, l10, l11, l12, l13, l14, l15, l16, l17, l18, l19, l20, l21, l22, l23, l24, l25, l27, l31, l32, l40, l46, l48, l50, l57, l59, l63, l86, l96, l97, l100, l110, l114, l122, l127, l200, l255, l300, l319, l320, l340, l441, l456, l580, l600, l800, l886, l1206, l1526, J_add, J_sub, J_mul, J_neg, J_lt, J_le, J_eq, jT, jF, iT, iF, eT, eF, aT, aF, ite_true, ite_false, ite_not, bs]
      · obtain ⟨g2, e2, F2, v2⟩ := R1.fail H c1 (x := J 1) (y := J 0) (z := J 19)
        refine ⟨0, g2, ?_, wx g2 F2 v2⟩
        rw [q]
        simp (disch := omega) only [m_X12_readChange, j_X12_readChange_72, rc_ok H.tag, e1, rc_ok H1.tag, e2, zb0, lm8, lm2, lm1, l0, l1, l2, l3, l4, l5, l6, l7, l8, l9, l10, l11, l12, l13, l14, l15, l16, l17, l18, l19, l20, l21, l22, l23, l24, l25, l27, l31, l32, l40, l46, l48, l50, l57, l59, l63, l86, l96, l97, l100, l110, l114, l122, l127, l200, l255, l300, l319, l320, l340, l441, l456, l580, l600, l800, l886, l1206, l1526, J_add, J_sub, J_mul, J_neg, J_lt, J_le, J_eq, jT, jF, iT, iF, eT, eF, aT, aF, ite_true, ite_false, ite_not, bs]
      · obtain ⟨g2, e2, F2, v2⟩ := R1.fail H c1 (x := J 1) (y := J 0) (z := J 19)
        refine ⟨0, g2, ?_, wx g2 F2 v2⟩
        rw [q]
        simp (disch := omega) only [m_X12_readChange, j_X12_readChange_100, rc_ok H.tag, e1, rc_ok H1.tag, e2, zb0, lm8, lm2, lm1, l0, l1, l2, l3, l4, l5, l6, l7, l8, l9, l10, l11, l12, l13, l14, l15, l16, l17, l18, l19, l20, l21, l22, l23, l24, l25, l27, l31, l32, l40, l46, l48, l50, l57, l59, l63, l86, l96, l97, l100, l110, l114, l122, l127, l200, l255, l300, l319, l320, l340, l441, l456, l580, l600, l800, l886, l1206, l1526, J_add, J_sub, J_mul, J_neg, J_lt, J_le, J_eq, jT, jF, iT, iF, eT, eF, aT, aF, ite_true, ite_false, ite_not, bs]
      · obtain ⟨g2, e2, F2, v2⟩ := R1.fail H c1 (x := J 1) (y := J 0) (z := J 9)
        refine ⟨0, g2, ?_, wx g2 F2 v2⟩
        rw [q]
        simp (disch := omega) only [m_X12_readChange, rc_ok H.tag, e1, rc_ok H1.tag, e2, zb0, lm8, lm2, lm1, l0, l1, l2, l3, l4, l5, l6, l7, l8, l9, l10, l11, l12, l13, l14, l15, l16, l17, l18, l19, l20, l21, l22, l23, l24, l25, l27, l31, l32, l40, l46, l48, l50, l57, l59, l63, l86, l96, l97, l100, l110, l114, l122, l127, l200, l255, l300, l319, l320, l340, l441, l456, l580, l600, l800, l886, l1206, l1526, J_add, J_sub, J_mul, J_neg, J_lt, J_le, J_eq, jT, jF, iT, iF, eT, eF, aT, aF, ite_true, ite_false, ite_not, bs]
  · obtain ⟨g1, e1, F1, v1⟩ := R0.fail H c0 (x := J 0) (y := J 0) (z := J 3)
    refine ⟨0, g1, ?_, w0 g1 0 (by omega) (by omega) (fun j j0 j1 => by omega) c0 F1 v1⟩
    simp (disch := omega) only [m_X12_readChange, rc_ok H.tag, e1, lm8, lm2, lm1, l0, l1, l2, l3, l4, l5, l6, l7, l8, l9, l10, l11, l12, l13, l14, l15, l16, l17, l18, l19, l20, l21, l22, l23, l24, l25, l27, l31, l32, l40, l46, l48, l50, l57, l59, l63, l86, l96, l97, l100, l110, l114, l122, l127, l200, l255, l300, l319, l320, l340, l441, l456, l580, l600, l800, l886, l1206, l1526, J_add, J_sub, J_mul, J_neg, J_lt, J_le, J_eq, jT, jF, iT, iF, eT, eF, aT, aF, ite_true, ite_false, ite_not, bs]
end RCh
