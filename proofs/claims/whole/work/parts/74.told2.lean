/-! PURE PART: doc, put, cut, move, back: the reference -/
theorem loop_stop {σ R : Type} {body : (σ → Option R) → σ → Option R} {s : σ} {x : Option R} (h : ∀ k, body k s = x) : loopK FUEL body s = x := loop_int (fun _ => s) 0 (Int.le_refl 0) (by omega) rfl (fun k i h1 h2 => by omega) (fun k => h k)
section TP
variable {h : Hp} {o : Nat} {T : Int → Int} {z d m n dt : Int} {ws r : Int → Int}
theorem RT.tag (H : RT h o T) : hTag h o = 12 := H.1.1
theorem RT.told (H : RT h o T) {k : Int} (h0 : 0 ≤ k) (h1 : k < 1526) : alI h (o + 9) (J k) = some (J (T k)) := by
  rw [alI_ok H.1.a18 h0 (by omega) (by omega), H.2.2 k h0 h1]
theorem RT.latest (H : RT h o T) {d : Int} (d0 : 0 ≤ d) (d1 : d < T 0) : m_X12_latest o (J d) h = some (J (10 * d + (T (1 + d) - 1))) := by
  have h0 := H.2.1.n0
  have hn := H.2.1.nv d0 (by omega)
  simp (disch := omega) only [m_X12_latest, H.1.r18, H.told, X12_at_ok, lm8, lm2, lm1, l0, l1, l2, l3, l4, l5, l6, l7, l8, l9, l10, l11, l12, l13, l14, l15, l16, l17, l18, l19, l20, l21, l22, l23, l24, l25, l27, l31, l32, l40, l46, l48, l50, l57, l59, l63, l86, l96, l97, l100, l110, l114, l122, l127, l200, l255, l300, l319, l320, l340, l441, l456, l580, l600, l800, l886, l1206, l1526, J_add, J_sub, J_mul, J_neg, J_lt, J_le, J_eq, jT, jF, iT, iF, eT, eF, aT, aF, ite_true, ite_false, ite_not, bs]
theorem RT.doc (H : RT h o T) {w : Int} (h4 : T 0 < 4) (w0 : 0 ≤ w) (w1 : w ≤ 20) (h5 : T 5 + w ≤ 319) (hws : ∀ i, 0 ≤ i → i < w → wrg (ws i)) (hd : hE h o 23 = dt) (hw : hE h o 21 = w) (hsp : ∀ i, 0 ≤ i → i < w → hE h (o + 11) i = ws i) : ∃ h', ((gfR h o 12 18).bind fun x4 => (alI h x4 (0 : Int32)).bind fun x5 => (gfR h o 12 18).bind fun x6 => (alI h x6 (0 : Int32)).bind fun x7 => (asI h x6 (0 : Int32) (x7 + (1 : Int32))).bind fun hh1 => (rc hh1 o 12 (m_X12_beginVersion o x5 hh1)).bind fun x8 => l_X12_docLine_57 o x5 (0 : Int32) x8) = some (J 1, h') ∧ FR (ATo o) h h' ∧ RT h' o (mkT T 1 (T 0) w ws w (fun q => T 5 + q) dt) := by
  have h0 := H.2.1.n0
  have h5' := H.2.1.n5
  have hz := H.2.1.2.2.1 (T 0) (Int.le_refl _) h4
  have K := VK_doc (ws := ws) H.2.1 h4 w0 w1 h5 hws
  have G : MG T (T 0) 0 0 := ⟨⟨h0.1, h4⟩, ⟨by omega, by omega⟩, h5'.1, ⟨Int.le_refl 0, by omega⟩, Int.le_refl 0, by omega⟩
  have t0 := H.1
  have hr := hE_rg h o 23
  rw [hd] at hr
  have hs : 0 ≤ slV T (T 0) ∧ slV T (T 0) < 40 := by unfold slV; omega
  generalize hg0 : wE h (o + 9) 0 (T 0 + 1) = g0
  have tg0 : TR (top g0) o := by rw [← hg0]; exact t0
  have cg0 : ∀ k, 0 ≤ k → k < 1526 → hE g0 (o + 9) k = if k = 0 then T 0 + 1 else T k := fun k k0 k1 => by
    rw [← hg0, hE_wE (by omega) k0 (by omega) (by omega), H.2.2 k k0 k1]
    simp only [true_and]
  generalize hg1 : wE g0 (o + 9) (1 + T 0) (T (1 + T 0) + 1) = g1
  have tg1 : TR (top g1) o := by rw [← hg1]; exact tg0
  have cg1 : ∀ k, 0 ≤ k → k < 1526 → hE g1 (o + 9) k = if k = 1 + T 0 then T (1 + T 0) + 1 else if k = 0 then T 0 + 1 else T k := fun k k0 k1 => by
    rw [← hg1, hE_wE (by omega) k0 (by omega) (by omega), cg0 k k0 k1]
    simp only [true_and]
  generalize hg2 : wE g1 (o + 9) (46 + slV T (T 0)) 0 = g2
  have tg2 : TR (top g2) o := by rw [← hg2]; exact tg1
  have cg2 : ∀ k, 0 ≤ k → k < 1526 → hE g2 (o + 9) k = if k = 46 + slV T (T 0) then 0 else if k = 1 + T 0 then T (1 + T 0) + 1 else if k = 0 then T 0 + 1 else T k := fun k k0 k1 => by
    rw [← hg2, hE_wE (by omega) k0 (by omega) (by omega), cg1 k k0 k1]
    simp only [true_and]
  have F2 : FR (ATo o) h g2 := by
    rw [← hg2, ← hg1, ← hg0]
    exact (frA.trans frA).trans frA
  have a0 : alI g0 (o + 9) (J (1 + T 0)) = some (J (T (1 + T 0))) := by rw [alI_ok tg0.a18 (by omega) (by omega) (by omega), cg0 _ (by omega) (by omega), if_neg (by omega)]
  have s0 : asI h (o + 9) (J 0) (J (T 0 + 1)) = some g0 := by rw [asI_ok t0.a18 (by omega) (by omega) (by omega), hg0]
  have s1 : asI g0 (o + 9) (J (1 + T 0)) (J (T (1 + T 0) + 1)) = some g1 := by rw [asI_ok tg0.a18 (by omega) (by omega) (by omega), hg1]
  have s2 : asI g1 (o + 9) (J (46 + slV T (T 0))) (J 0) = some g2 := by rw [asI_ok tg1.a18 (by omega) (by omega) (by omega), hg2]
  have s3 : asI g2 (o + 9) (J (6 + slV T (T 0))) (J dt) = some (wE g2 (o + 9) (6 + slV T (T 0)) dt) := asI_ok tg2.a18 (by omega) (by omega) (by omega)
  have la : ∀ g, TR (top g) o → hE g (o + 9) (1 + T 0) = T (1 + T 0) + 1 → m_X12_latest o (J (T 0)) g = some (J (slV T (T 0))) := fun g tg eg => by
    have e2 : alI g (o + 9) (J (1 + T 0)) = some (J (T (1 + T 0) + 1)) := by rw [alI_ok tg.a18 (by omega) (by omega) (by omega), eg]
    simp (disch := omega) only [m_X12_latest, tg.r18, e2, X12_at_ok, lm8, lm2, lm1, l0, l1, l2, l3, l4, l5, l6, l7, l8, l9, l10, l11, l12, l13, l14, l15, l16, l17, l18, l19, l20, l21, l22, l23, l24, l25, l27, l31, l32, l40, l46, l48, l50, l57, l59, l63, l86, l96, l97, l100, l110, l114, l122, l127, l200, l255, l300, l319, l320, l340, l441, l456, l580, l600, l800, l886, l1206, l1526, J_add, J_sub, J_mul, J_neg, J_lt, J_le, J_eq, jT, jF, iT, iF, eT, eF, aT, aF, ite_true, ite_false, ite_not, bs]
    rw [show 10 * T 0 + (T (1 + T 0) + 1 - 1) = slV T (T 0) by unfold slV; omega]
  have l1' := la g1 tg1 (by rw [cg1 _ (by omega) (by omega), if_pos rfl])
  have l2' := la g2 tg2 (by rw [cg2 _ (by omega) (by omega), if_neg (by omega), if_pos rfl])
  have e23 : gfI g2 o 12 23 = some (J dt) := by rw [tg2.f23, F2.e (by unfold ATo; omega), hd]
  have q1 : hTag g1 o = 12 := tg1.1
  have q2 : hTag g2 o = 12 := tg2.1
  have q0 : hTag g0 o = 12 := tg0.1
  have eb : m_X12_beginVersion o (J (T 0)) g0 = some (wE g2 (o + 9) (6 + slV T (T 0)) dt) := by
    simp (disch := omega) only [m_X12_beginVersion, tg0.r18, tg1.r18, tg2.r18, a0, s1, s2, s3, rc_ok q1, rc_ok q2, l1', l2', e23, lm8, lm2, lm1, l0, l1, l2, l3, l4, l5, l6, l7, l8, l9, l10, l11, l12, l13, l14, l15, l16, l17, l18, l19, l20, l21, l22, l23, l24, l25, l27, l31, l32, l40, l46, l48, l50, l57, l59, l63, l86, l96, l97, l100, l110, l114, l122, l127, l200, l255, l300, l319, l320, l340, l441, l456, l580, l600, l800, l886, l1206, l1526, J_add, J_sub, J_mul, J_neg, J_lt, J_le, J_eq, jT, jF, iT, iF, eT, eF, aT, aF, ite_true, ite_false, ite_not, bs]
  have F3 : FR (ATo o) h (wE g2 (o + 9) (6 + slV T (T 0)) dt) := F2.trans frA
  have B : RB (wE g2 (o + 9) (6 + slV T (T 0)) dt) o T 1 (T 0) 0 ws 0 (fun q => T 5 + q) dt := by
    refine ⟨tg2, H.2.1, G, Or.inr rfl, fun k k0 k1 => ?_⟩
    rw [hE_wE (by omega) k0 (by omega) (by omega), cg2 k k0 k1, ← up_beg G]
    simp only [true_and]
  generalize hg3 : wE g2 (o + 9) (6 + slV T (T 0)) dt = g3 at *
  obtain ⟨h', e', F', B'⟩ := B.words (w := w) w0 (by omega) h5 hws (fun i i0 i1 => by rw [show (0 : Int) + i = i by omega]) (fun i i0 i1 => by rw [F3.e (by unfold ATo; omega), hsp i i0 i1]) (fun h' => some (J 1, h')) (fun (k : Int32 × Hp → Option (Int32 × Hp)) (s : Int32 × Hp) => b_X12_docLine_57 o (J (T 0)) (fun v3q hq => k (v3q, hq)) s.1 s.2) (fun k i h' F i0 i1 => by
      show b_X12_docLine_57 o (J (T 0)) _ (J i) h' = _
      have th : TR (top h') o := by rw [F.1]; exact B.1
      have e21 : gfI h' o 12 21 = some (J w) := by rw [th.f21, F.e (by unfold ATo; omega), F3.e (by unfold ATo; omega), hw]
      simp (disch := omega) only [b_X12_docLine_57, e21, th.r20, bs, J_le, iF, l1, J_add]) (fun k h' F => by
      show b_X12_docLine_57 o (J (T 0)) _ (J w) h' = _
      have th : TR (top h') o := by rw [F.1]; exact B.1
      have e21 : gfI h' o 12 21 = some (J w) := by rw [th.f21, F.e (by unfold ATo; omega), F3.e (by unfold ATo; omega), hw]
      simp (disch := omega) only [b_X12_docLine_57, e21, lm8, lm2, lm1, l0, l1, l2, l3, l4, l5, l6, l7, l8, l9, l10, l11, l12, l13, l14, l15, l16, l17, l18, l19, l20, l21, l22, l23, l24, l25, l27, l31, l32, l40, l46, l48, l50, l57, l59, l63, l86, l96, l97, l100, l110, l114, l122, l127, l200, l255, l300, l319, l320, l340, l441, l456, l580, l600, l800, l886, l1206, l1526, J_add, J_sub, J_mul, J_neg, J_lt, J_le, J_eq, jT, jF, iT, iF, eT, eF, aT, aF, ite_true, ite_false, ite_not, bs])
  rw [show 0 + w = w by omega] at B'
  refine ⟨h', ?_, F3.trans F', B'.done K⟩
  have e0 : alI h (o + 9) (J 0) = some (J (T 0)) := H.told (by omega) (by omega)
  simp (disch := omega) only [t0.r18, e0, s0, rc_ok q0, eb, lm8, lm2, lm1, l0, l1, l2, l3, l4, l5, l6, l7, l8, l9, l10, l11, l12, l13, l14, l15, l16, l17, l18, l19, l20, l21, l22, l23, l24, l25, l27, l31, l32, l40, l46, l48, l50, l57, l59, l63, l86, l96, l97, l100, l110, l114, l122, l127, l200, l255, l300, l319, l320, l340, l441, l456, l580, l600, l800, l886, l1206, l1526, J_add, J_sub, J_mul, J_neg, J_lt, J_le, J_eq, jT, jF, iT, iF, eT, eF, aT, aF, ite_true, ite_false, ite_not, bs]
  exact e'
end TP
