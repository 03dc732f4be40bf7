/-! PURE PART: the reference's next token, the rest -/
section RK2
variable {h : Hp} {o : Nat} {B : Int → Int} {L : Int}
theorem RP.digits (H : RP h o B L) {f : Int} (hf : hE h o 9 = f) (h13 : hE h o 13 = 0) (f0 : 0 ≤ f) (f1 : f ≤ L) (K : Int32 → Hp → Option Hp) : ∃ h', l_X12_token_163 o K (J 0) h = K (J (adv (fun k => diB (B k)) L f - f)) h' ∧ FR (fun b k => b = o ∧ (k = 9 ∨ k = 13)) h h' ∧ hE h' o 9 = adv (fun k => diB (B k)) L f ∧ hE h' o 13 = nuN B f (adv (fun k => diB (B k)) L f - f) := by
  have hW := H.2.1
  have hW2 := hW.2.1
  obtain ⟨s1, s2, s3, s4⟩ := adv_spec (fun k => diB (B k)) f1
  generalize hn : adv (fun k => diB (B k)) L f = n at *
  have sub : ∀ b k, (b = o ∧ (k = 9 ∨ k = 13)) → ARk o b k := fun b k q => ⟨q.1, by omega⟩
  have dig : ∀ p, f ≤ p → p < n → 48 ≤ B p ∧ B p ≤ 57 := fun p p0 p1 => by
    have hP : diB (B p) = true := s3 p p0 p1
    unfold diB at hP
    exact of_decide_eq_true hP
  obtain ⟨s, ⟨h1, rfl, F1, e1, e2⟩, el⟩ := loop_ex (body := fun (k : Int32 × Hp → Option Hp) (s : Int32 × Hp) => b_X12_token_163 o K (fun v2q hq => k (v2q, hq)) s.1 s.2) (s := (J 0, h)) (fun j s => ∃ g, s = (J j, g) ∧ FR (fun b k => b = o ∧ (k = 9 ∨ k = 13)) h g ∧ hE g o 9 = f + j ∧ hE g o 13 = nuN B f j) (fun s => K (J (n - f)) s.2) (n - f) (by omega) (by omega) ⟨h, rfl, FR.refl _ _, by rw [hf, Int.add_zero], h13⟩ (by
    rintro k j s j0 j1 ⟨g, rfl, F, e, el⟩
    have H' := H.frk (F.mono sub)
    have hB := hW.2.2 (f + j) (by omega) (by omega)
    have hP' : diB (B (f + j)) = true := s3 (f + j) (by omega) (by omega)
    have hP2 := dig (f + j) (by omega) (by omega)
    have e9 : gfI g o 12 9 = some (J (f + j)) := by rw [H'.fI]; exact congrArg (fun z => some (J z)) e
    have e13 : gfI g o 12 13 = some (J (nuN B f j)) := by rw [H'.fI]; exact congrArg (fun z => some (J z)) el
    have es := H'.see (p := f + j) e (by omega)
    unfold seF at es
    rw [if_neg (by omega)] at es
    have ein := di_in (h := g) hB.1 hB.2
    rw [hP'] at ein
    rw [show B (f + j) % 256 = B (f + j) by omega] at es ein
    have ein' : m_X12_in (J (B (f + j))) (J 48) (J 57) g = some (J (b01 true)) := ein
    have hnu : nuN B f (j + 1) = if 2 ≤ j then nuN B f j else 10 * nuN B f j + B (f + j) - 48 := by
      unfold nuN
      by_cases c0 : j = 0
      · rw [c0, if_neg (by omega), if_pos (by omega), if_neg (by omega), if_pos (by omega), Int.add_zero]
        omega
      · by_cases c1 : j = 1
        · rw [c1, if_neg (by omega), if_neg (by omega), if_neg (by omega), if_neg (by omega), if_pos rfl]
          omega
        · rw [if_neg (by omega), if_neg (by omega), if_pos (by omega), if_neg (by omega), if_neg (by omega)]
    have hrg : -10000 < nuN B f j ∧ nuN B f j < 10000 := by
      unfold nuN
      by_cases c0 : j ≤ 0
      · rw [if_pos c0]
        omega
      · rw [if_neg c0]
        have d0 := dig f (by omega) (by omega)
        by_cases c1 : j = 1
        · rw [if_pos c1]
          omega
        · rw [if_neg c1]
          have d1 := dig (f + 1) (by omega) (by omega)
          omega
    generalize hM : nuN B f (j + 1) = M at *
    generalize nuN B f j = m at *
    have hM2 : -200000 < M ∧ M < 200000 := by rw [hnu]; split <;> omega
    have p13 : pfI g o 12 13 (J M) = some (wE g o 13 M) := H'.pI
    have H2 : RP (wE g o 13 M) o B L := H'.frk (frR (k := 13) (by omega))
    have e9' : gfI (wE g o 13 M) o 12 9 = some (J (f + j)) := by
      rw [H2.fI]
      exact congrArg (fun z => some (J z)) (by show hE (wE g o 13 M) o 9 = f + j; rw [hE_wE (by omega) (by omega) (by omega) (by omega), if_neg (by omega), e])
    have p9 : pfI (wE g o 13 M) o 12 9 (J (f + j + 1)) = some (wE (wE g o 13 M) o 9 (f + j + 1)) := H2.pI
    refine ⟨(J (j + 1), wE (wE g o 13 M) o 9 (f + j + 1)), ⟨_, rfl, (F.trans (FR.wE (A := fun b k => b = o ∧ (k = 9 ∨ k = 13)) ⟨rfl, Or.inr rfl⟩)).trans (FR.wE (A := fun b k => b = o ∧ (k = 9 ∨ k = 13)) ⟨rfl, Or.inl rfl⟩), ?_, ?_⟩, ?_⟩
    · rw [hE_wE (by omega) (by omega) (by omega) (by omega), if_pos ⟨rfl, rfl⟩]
      omega
    · rw [hE_wE (by omega) (by omega) (by omega) (by omega), if_neg (by omega), hE_wE (by omega) (by omega) (by omega) (by omega), if_pos ⟨rfl, rfl⟩]
    · show b_X12_token_163 o K (fun v2q hq => k (v2q, hq)) (J j) g = _
      by_cases c : 2 ≤ j
      · rw [if_pos c] at hnu
        rw [hnu] at p13 e9' p9
        rw [hnu]
        simp (disch := omega) only [b_X12_token_163, j_X12_token_205, rc_ok H'.tag, es, ein', bI, cond_true, e13, l2, l48, l57, J_le, iT, p13, e9', p9, l0, l1, J_add, bs]
      · rw [if_neg c] at hnu
        rw [hnu] at p13 e9' p9
        rw [hnu]
        simp (disch := omega) only [b_X12_token_163, j_X12_token_205, rc_ok H'.tag, es, ein', bI, cond_true, e13, l2, J_le, iF, J_mul, J_sub, l10, l48, l57, p13, e9', p9, l0, l1, J_add, bs]) (by
    rintro k s ⟨g, rfl, F, e, -⟩
    have H' := H.frk (F.mono sub)
    have es := H'.see (p := n) (by omega) (by omega)
    show b_X12_token_163 o K (fun v2q hq => k (v2q, hq)) (J (n - f)) g = _
    unfold seF at es
    by_cases c : n < L
    · rw [if_neg (by omega)] at es
      have hB := hW.2.2 n (by omega) (by omega)
      have hP : diB (B n) = false := s4 c
      have ein := di_in (h := g) hB.1 hB.2
      rw [hP] at ein
      have ein' : m_X12_in (J (B n % 256)) (J 48) (J 57) g = some (J (b01 false)) := ein
      simp (disch := omega) only [b_X12_token_163, rc_ok H'.tag, es, ein', bI, cond_false, l0, l48, l57, bs]
    · rw [if_pos (by omega)] at es
      have ein' : m_X12_in (J (-1)) (J 48) (J 57) g = some (J 0) := X12_in_F (a := -1) (b := 48) (c := 57) (by omega) (by omega) (by omega) (by omega)
      simp (disch := omega) only [b_X12_token_163, rc_ok H'.tag, es, ein', l0, l48, l57, iT, bs, if_true])
  exact ⟨h1, el, F1, by rw [e1]; omega, e2⟩
theorem RP.token (H : RP h o B L) {i : Int} (hi : hE h o 9 = i) (i0 : 0 ≤ i) (i1 : i ≤ L) : ∃ h', m_X12_token o h = some h' ∧ FR (ARk o) h h' ∧ hE h' o 11 = frF B L i ∧ hE h' o 9 = toF B L (frF B L i) ∧ hE h' o 12 = rkF B L (frF B L i) ∧ (rkF B L (frF B L i) = 3 → hE h' o 13 = nuN B (frF B L i) (toF B L (frF B L i) - frF B L i)) ∧ hL h' o 14 = ltF B L (frF B L i) := by
  have hW := H.2.1
  have hW2 := hW.2.1
  obtain ⟨s1, s2, -, -⟩ := adv_spec (fun k => blB (B k)) i1
  obtain ⟨g1, k1, G1, f1⟩ := H.skip hi i0 i1 (fun hz1 => j_X12_token_31 o hz1)
  have H1 := H.frk G1
  have em : m_X12_token o h = j_X12_token_31 o g1 := k1
  rw [em]
  have hfr : i ≤ frF B L i ∧ frF B L i ≤ L := ⟨s1, s2⟩
  generalize frF B L i = f at *
  have e9 : gfI g1 o 12 9 = some (J f) := by rw [H1.fI]; exact congrArg (fun z => some (J z)) f1
  have p11 : pfI g1 o 12 11 (J f) = some (wE g1 o 11 f) := H1.pI
  have F2 : FR (ARk o) g1 (wE g1 o 11 f) := frR (k := 11) (by omega)
  have H2 := H1.frk F2
  have c9 : hE (wE g1 o 11 f) o 9 = f := by rw [hE_wE (by omega) (by omega) (by omega) (by omega), if_neg (by omega), f1]
  have c11 : hE (wE g1 o 11 f) o 11 = f := by rw [hE_wE (by omega) (by omega) (by omega) (by omega), if_pos ⟨rfl, rfl⟩]
  generalize wE g1 o 11 f = g2 at *
  have es := H2.see (p := f) c9 (by omega)
  have p14 : pfJ g2 o 12 14 (0 : Int64) = some (wJ g2 o 14 0) := H2.pJ
  have F3 : FR (ARk o) g2 (wJ g2 o 14 0) := frJ
  have H3 := H2.frk F3
  have d9 : hE (wJ g2 o 14 0) o 9 = f := c9
  have d11 : hE (wJ g2 o 14 0) o 11 = f := c11
  have d14 : hL (wJ g2 o 14 0) o 14 = 0 := by rw [hL_wJ (by omega) (by omega), if_pos ⟨rfl, rfl⟩]
  generalize wJ g2 o 14 (0 : Int64) = g3 at *
  have F03 : FR (ARk o) h g3 := (G1.trans F2).trans F3
  have tl : ∀ (g : Hp) (y : Int), RP g o B L → pfI g o 12 12 (J y) = some (wE g o 12 y) := fun g y Hg => Hg.pI
  unfold seF at es
  unfold ltF rkF
  by_cases cL : L ≤ f
  · rw [if_pos cL] at es
    refine ⟨wE g3 o 12 0, ?_, F03.trans (frR (k := 12) (by omega)), ?_, ?_, ?_, ?_, ?_⟩
    · simp (disch := omega) only [j_X12_token_31, e9, p11, rc_ok H2.tag, es, p14, tl g3 0 H3, lm8, lm2, lm1, l0, l1, l2, l3, l4, l5, l6, l7, l8, l9, l10, l11, l12, l13, l14, l15, l16, l17, l18, l19, l20, l21, l22, l23, l24, l25, l27, l31, l32, l40, l46, l48, l50, l57, l59, l63, l86, l96, l97, l100, l110, l114, l122, l127, l200, l255, l300, l319, l320, l340, l441, l456, l580, l600, l800, l886, l1206, l1526, J_add, J_sub, J_mul, J_neg, J_lt, J_le, J_eq, jT, jF, iT, iF, eT, eF, aT, aF, ite_true, ite_false, ite_not, bs]
    · rw [hE_wE (by omega) (by omega) (by omega) (by omega), if_neg (by omega), d11]
    · rw [hE_wE (by omega) (by omega) (by omega) (by omega), if_neg (by omega), d9]
      unfold toF
      rw [if_pos cL]
    · rw [hE_wE (by omega) (by omega) (by omega) (by omega), if_pos ⟨rfl, rfl⟩, if_pos cL]
    · rw [if_pos cL]
      intro q
      omega
    · rw [if_pos cL, if_neg (by omega), hL_wE, d14]
  · rw [if_neg cL] at es
    have hB := hW.2.2 f (by omega) (by omega)
    have hb : 0 ≤ B f % 256 ∧ B f % 256 < 256 := by omega
    have ein1 : m_X12_in (J (B f % 256)) (J 97) (J 122) g3 = some (J (b01 (leB (B f)))) := le_in hB.1 hB.2
    have ein2 : m_X12_in (J (B f % 256)) (J 48) (J 57) g3 = some (J (b01 (diB (B f)))) := di_in hB.1 hB.2
    simp only [if_neg cL]
    by_cases cl : leB (B f) = true
    · have et : toF B L f = adv (fun k => leB (B k)) L f := by unfold toF; rw [if_neg cL, if_pos cl]
      obtain ⟨u1, u2, -, -⟩ := adv_spec (fun k => leB (B k)) hfr.2
      obtain ⟨g4, k4, G4, f9, f14⟩ := H3.letters d9 d14 (by omega) hfr.2 (fun a7_2 hz7 => j_X12_token_121 o a7_2 hz7)
      rw [← et] at k4 f9 f14 u1 u2
      have F4 : FR (ARk o) g3 g4 := G4.mono (fun b k q => ⟨q.1, by omega⟩)
      have H4 := H3.frk F4
      have f11 : hE g4 o 11 = f := by rw [← d11]; exact G4.e (by omega)
      rw [cl] at ein1
      simp only [if_pos cl, if_true]
      have ef : j_X12_token_31 o g1 = j_X12_token_121 o (J (toF B L f - f)) g4 := by
        simp (disch := omega) only [j_X12_token_31, e9, p11, rc_ok H2.tag, es, p14, ein1, bI, cond_true, l0, l97, l122, J_le, jT, iT, bs]
        exact k4
      rw [ef]
      have fin : ∀ x : Int64, ∃ h', j_X12_token_136 o o x g4 = some h' ∧ FR (ARk o) g4 h' ∧ hE h' o 11 = f ∧ hE h' o 9 = toF B L f ∧ hE h' o 12 = 2 ∧ hL h' o 14 = x := fun x => by
        have p1 : pfJ g4 o 12 14 x = some (wJ g4 o 14 x) := H4.pJ
        have H5 : RP (wJ g4 o 14 x) o B L := H4.frk frJ
        have p2 : pfI (wJ g4 o 14 x) o 12 12 (2 : Int32) = some (wE (wJ g4 o 14 x) o 12 2) := tl _ 2 H5
        refine ⟨wE (wJ g4 o 14 x) o 12 2, ?_, frJ.trans (frR (k := 12) (by omega)), ?_, ?_, ?_, ?_⟩
        · simp only [j_X12_token_136, p1, p2, bs]
        · rw [hE_wE (by omega) (by omega) (by omega) (by omega), if_neg (by omega)]
          exact f11
        · rw [hE_wE (by omega) (by omega) (by omega) (by omega), if_neg (by omega)]
          exact f9
        · rw [hE_wE (by omega) (by omega) (by omega) (by omega), if_pos ⟨rfl, rfl⟩]
        · rw [hL_wE, hL_wJ (by omega) (by omega), if_pos ⟨rfl, rfl⟩]
      by_cases c8 : toF B L f - f ≤ 8
      · rw [if_pos c8]
        obtain ⟨h', a1, a2, a3, a4, a5, a6⟩ := fin (ltI B f (toF B L f - f).toNat)
        refine ⟨h', ?_, (F03.trans F4).trans a2, a3, a4, a5, fun q => by omega, a6⟩
        have e14 := H4.fJ
        rw [f14] at e14
        simp (disch := omega) only [j_X12_token_121, l8, J_le, iT, e14, bs]
        exact a1
      · rw [if_neg c8]
        obtain ⟨h', a1, a2, a3, a4, a5, a6⟩ := fin 0
        refine ⟨h', ?_, (F03.trans F4).trans a2, a3, a4, a5, fun q => by omega, a6⟩
        simp (disch := omega) only [j_X12_token_121, l8, J_le, iF]
        exact a1
    · have cl' : leB (B f) = false := by simpa using cl
      rw [cl'] at ein1
      simp only [if_neg cl]
      by_cases cd : diB (B f) = true
      · have et : toF B L f = adv (fun k => diB (B k)) L f := by unfold toF; rw [if_neg cL, if_neg cl, if_pos cd]
        obtain ⟨u1, u2, -, -⟩ := adv_spec (fun k => diB (B k)) hfr.2
        rw [cd] at ein2
        have p13 : pfI g3 o 12 13 (J 0) = some (wE g3 o 13 0) := H3.pI
        have H4 : RP (wE g3 o 13 0) o B L := H3.frk (frR (k := 13) (by omega))
        obtain ⟨g5, k5, G5, f9, f13⟩ := H4.digits (f := f) (by rw [hE_wE (by omega) (by omega) (by omega) (by omega), if_neg (by omega), d9]) (by rw [hE_wE (by omega) (by omega) (by omega) (by omega), if_pos ⟨rfl, rfl⟩]) (by omega) hfr.2 (fun a6_2 hz6 => j_X12_token_224 o a6_2 hz6)
        rw [← et] at k5 f9 f13 u1 u2
        have F5 : FR (ARk o) (wE g3 o 13 0) g5 := G5.mono (fun b k q => ⟨q.1, by omega⟩)
        have H5 := H4.frk F5
        have f11 : hE g5 o 11 = f := by
          rw [G5.e (by omega), hE_wE (by omega) (by omega) (by omega) (by omega), if_neg (by omega), d11]
        have f14 : hL g5 o 14 = 0 := by rw [G5.l (by omega), hL_wE, d14]
        simp only [if_pos cd]
        have ef : j_X12_token_31 o g1 = j_X12_token_224 o (J (toF B L f - f)) g5 := by
          simp (disch := omega) only [j_X12_token_31, e9, p11, rc_ok H2.tag, es, p14, ein1, ein2, bI, cond_true, cond_false, l0, l97, l122, l48, l57, J_le, jT, iT, p13, bs]
          exact k5
        rw [ef]
        refine ⟨wE g5 o 12 (if 2 < toF B L f - f then 1 else 3), ?_, ((F03.trans (frR (k := 13) (by omega))).trans F5).trans (frR (k := 12) (by omega)), ?_, ?_, ?_, fun _ => ?_, ?_⟩
        · by_cases c2 : 2 < toF B L f - f
          · have := tl g5 1 H5
            rw [if_pos c2]
            simp (disch := omega) only [j_X12_token_224, j_X12_token_235, this, lm8, lm2, lm1, l0, l1, l2, l3, l4, l5, l6, l7, l8, l9, l10, l11, l12, l13, l14, l15, l16, l17, l18, l19, l20, l21, l22, l23, l24, l25, l27, l31, l32, l40, l46, l48, l50, l57, l59, l63, l86, l96, l97, l100, l110, l114, l122, l127, l200, l255, l300, l319, l320, l340, l441, l456, l580, l600, l800, l886, l1206, l1526, J_add, J_sub, J_mul, J_neg, J_lt, J_le, J_eq, jT, jF, iT, iF, eT, eF, aT, aF, ite_true, ite_false, ite_not, bs]
          · have := tl g5 3 H5
            rw [if_neg c2]
            simp (disch := omega) only [j_X12_token_224, j_X12_token_235, this, lm8, lm2, lm1, l0, l1, l2, l3, l4, l5, l6, l7, l8, l9, l10, l11, l12, l13, l14, l15, l16, l17, l18, l19, l20, l21, l22, l23, l24, l25, l27, l31, l32, l40, l46, l48, l50, l57, l59, l63, l86, l96, l97, l100, l110, l114, l122, l127, l200, l255, l300, l319, l320, l340, l441, l456, l580, l600, l800, l886, l1206, l1526, J_add, J_sub, J_mul, J_neg, J_lt, J_le, J_eq, jT, jF, iT, iF, eT, eF, aT, aF, ite_true, ite_false, ite_not, bs]
        · rw [hE_wE (by omega) (by omega) (by split <;> omega) (by split <;> omega), if_neg (by omega), f11]
        · rw [hE_wE (by omega) (by omega) (by split <;> omega) (by split <;> omega), if_neg (by omega), f9]
        · rw [hE_wE (by omega) (by omega) (by split <;> omega) (by split <;> omega), if_pos ⟨rfl, rfl⟩]
        · rw [hE_wE (by omega) (by omega) (by split <;> omega) (by split <;> omega), if_neg (by omega), f13]
        · rw [hL_wE, f14, if_neg (by split <;> omega)]
      · have cd' : diB (B f) = false := by simpa using cd
        have et : toF B L f = f + 1 := by unfold toF; rw [if_neg cL, if_neg cl, if_neg cd]
        rw [cd'] at ein2
        simp only [if_neg cd]
        have q9 : gfI g3 o 12 9 = some (J f) := by rw [H3.fI]; exact congrArg (fun z => some (J z)) d9
        have p9 : pfI g3 o 12 9 (J (f + 1)) = some (wE g3 o 9 (f + 1)) := H3.pI
        have H4 : RP (wE g3 o 9 (f + 1)) o B L := H3.frk (frR (k := 9) (by omega))
        refine ⟨wE (wE g3 o 9 (f + 1)) o 12 (if B f = 59 then 4 else 1), ?_, (F03.trans (frR (k := 9) (by omega))).trans (frR (k := 12) (by omega)), ?_, ?_, ?_, ?_, ?_⟩
        · by_cases c2 : B f = 59
          · have := tl _ 4 H4
            rw [if_pos c2]
            rw [c2, show (59 : Int) % 256 = 59 by decide] at es
            rw [c2, show (59 : Int) % 256 = 59 by decide] at ein1 ein2
            simp (disch := omega) only [j_X12_token_31, j_X12_token_263, e9, p11, rc_ok H2.tag, es, p14, ein1, ein2, bI, cond_false, q9, p9, this, lm8, lm2, lm1, l0, l1, l2, l3, l4, l5, l6, l7, l8, l9, l10, l11, l12, l13, l14, l15, l16, l17, l18, l19, l20, l21, l22, l23, l24, l25, l27, l31, l32, l40, l46, l48, l50, l57, l59, l63, l86, l96, l97, l100, l110, l114, l122, l127, l200, l255, l300, l319, l320, l340, l441, l456, l580, l600, l800, l886, l1206, l1526, J_add, J_sub, J_mul, J_neg, J_lt, J_le, J_eq, jT, jF, iT, iF, eT, eF, aT, aF, ite_true, ite_false, ite_not, bs]
          · have := tl _ 1 H4
            rw [if_neg c2]
            have c3 : B f % 256 < 59 ∨ 59 < B f % 256 := by omega
            simp (disch := omega) only [j_X12_token_31, j_X12_token_263, e9, p11, rc_ok H2.tag, es, p14, ein1, ein2, bI, cond_false, q9, p9, this, lm8, lm2, lm1, l0, l1, l2, l3, l4, l5, l6, l7, l8, l9, l10, l11, l12, l13, l14, l15, l16, l17, l18, l19, l20, l21, l22, l23, l24, l25, l27, l31, l32, l40, l46, l48, l50, l57, l59, l63, l86, l96, l97, l100, l110, l114, l122, l127, l200, l255, l300, l319, l320, l340, l441, l456, l580, l600, l800, l886, l1206, l1526, J_add, J_sub, J_mul, J_neg, J_lt, J_le, J_eq, jT, jF, iT, iF, eT, eF, aT, aF, ite_true, ite_false, ite_not, bs]
        · rw [hE_wE (by omega) (by omega) (by split <;> omega) (by split <;> omega), if_neg (by omega), hE_wE (by omega) (by omega) (by omega) (by omega), if_neg (by omega), d11]
        · rw [hE_wE (by omega) (by omega) (by split <;> omega) (by split <;> omega), if_neg (by omega), hE_wE (by omega) (by omega) (by omega) (by omega), if_pos ⟨rfl, rfl⟩, et]
        · rw [hE_wE (by omega) (by omega) (by split <;> omega) (by split <;> omega), if_pos ⟨rfl, rfl⟩]
        · intro q
          by_cases c2 : B f = 59
          · rw [if_pos c2] at q
            omega
          · rw [if_neg c2] at q
            omega
        · rw [hL_wE, hL_wE, d14, if_neg (by split <;> omega)]
end RK2
