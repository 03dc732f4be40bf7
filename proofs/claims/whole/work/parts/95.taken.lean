/-! PURE PART: a version taken, the class, the rest -/
def Amk (r b k : Nat) : Prop := r + 6 ≤ b ∧ b ≤ r + 13
def Atv (r b k : Nat) : Prop := Afc r b k ∨ Amk r b k
section VT
variable {h : Hp} {r : Nat} {B : Int → Int} {L f k e dt : Int} {T : Int → Int}
theorem CA.frc {h' : Hp} {r : Nat} (H : CA h (r + 6) T) (F : FR (Afc r) h h') : CA h' (r + 6) T := by
  refine H.frame F ?_ ?_ (fun k => ?_) (fun k => ?_) (fun k => ?_) (fun k => ?_) (fun k => ?_) (fun k => ?_) <;> · unfold Afc; omega
theorem DA.frc {h' : Hp} {r : Nat} (D : DA h (r + 6) T) (F : FR (Afc r) h h') : DA h' (r + 6) T := ⟨D.1, fun d v hv => by rw [F.e (by unfold Afc; omega), D.2 d v hv]⟩
theorem LnP.frc {h' : Hp} (P : LnP h (r + 1) B L f k) (F : FR (Afc r) h h') : LnP h' (r + 1) B L f k := P.frame F (fun b k b0 b1 => by unfold Afc; omega)
theorem LnP.first (P : LnP h (r + 1) B L f k) (R : TRd (top h) r) (W : LnW B L f k) (H : CA h (r + 6) T) (k9 : 9 ≤ k) (k12 : k ≤ 12) (E : ENc h r 9999) (v3 : viF B L f k 0 ≤ 3) : ∃ h', m_X7_noteFirstToken r h = some h' ∧ FR (Afc r) h h' ∧ ENc h' r (ftE T f k (viF B L f k 0) (viF B L f k 1) (viF B L f k 2)) := by
  have h0 := H.wf.n0
  have nk : 2 ≤ nCk k := by
    unfold nCk
    rw [if_neg (by omega), if_neg (by omega), if_neg (by omega), if_neg (by omega)]
    repeat' split
    all_goals omega
  have v0 := P.value (j := 0) (by omega) (by omega)
  have n0 := (W.num (j := 0) (by omega) (by omega)).2
  have hw := W.1
  generalize hd : viF B L f k 0 = d at *
  have ev := H.versionsOf (d := d) (by omega) (by omega)
  have hn := H.wf.nv (d := d) (by omega) (by omega)
  unfold ftE
  by_cases c : d < T 0
  · rw [if_pos c]
    have e1 := H.hasDocT (d := d) (by omega) c
    have e2 := H.latestLength (d := d) (by omega) (by omega)
    unfold latT at e2
    rw [if_pos c] at e2
    have e3 := X7_isThere_ok P R W H k9 k12 (d := d) (by omega) c
    by_cases c10 : 10 ≤ T (1 + d)
    · rw [if_pos c10]
      obtain ⟨g1, n1, F1, E1⟩ := E.note R.tag (s' := 3) (p' := f) (by omega) (by omega) (by omega) (by omega)
      have P1 := P.frc F1
      have R1 := R.fr F1
      have H1 := H.frc F1
      have e1 := H1.hasDocT (d := d) (by omega) c
      have e2 := H1.latestLength (d := d) (by omega) (by omega)
      unfold latT at e2
      rw [if_pos c] at e2
      have e3 := X7_isThere_ok P1 R1 W H1 k9 k12 (d := d) (by omega) c
      have a1 : m_X7_noteFirstToken r h = j_X7_noteFirstToken_34 r (J d) g1 := by
        simp (disch := omega) only [m_X7_noteFirstToken, R.r0, R.r1, rc_ok P.tag, rc_ok H.tag, rc_ok R.tag, v0, ev, P.f1, n1, lm8, lm2, lm1, l0, l1, l2, l3, l4, l5, l6, l7, l8, l9, l10, l11, l12, l13, l14, l15, l16, l17, l18, l19, l20, l21, l22, l23, l24, l25, l27, l31, l32, l40, l46, l48, l50, l57, l59, l63, l86, l96, l97, l100, l110, l114, l122, l127, l200, l255, l300, l319, l320, l340, l441, l456, l580, l600, l800, l886, l1206, l1526, J_add, J_sub, J_mul, J_neg, J_lt, J_le, J_eq, jT, jF, iT, iF, eT, eF, aT, aF, ite_true, ite_false, ite_not, bs]
      rw [a1]
      by_cases ct : thB T (k - 9) d (viF B L f k 1) (viF B L f k 2) = true
      · rw [ct] at e3
        refine ⟨g1, ?_, F1, by rw [show min 9999 (8 * f + 3) = 8 * f + 3 by omega] at E1; exact E1⟩
        simp (disch := omega) only [j_X7_noteFirstToken_34, R1.r1, rc_ok H1.tag, rc_ok R1.tag, e1, e2, e3, bI, bN, cond_true, lm8, lm2, lm1, l0, l1, l2, l3, l4, l5, l6, l7, l8, l9, l10, l11, l12, l13, l14, l15, l16, l17, l18, l19, l20, l21, l22, l23, l24, l25, l27, l31, l32, l40, l46, l48, l50, l57, l59, l63, l86, l96, l97, l100, l110, l114, l122, l127, l200, l255, l300, l319, l320, l340, l441, l456, l580, l600, l800, l886, l1206, l1526, J_add, J_sub, J_mul, J_neg, J_lt, J_le, J_eq, jT, jF, iT, iF, eT, eF, aT, aF, ite_true, ite_false, ite_not, bs]
      · have ct' : thB T (k - 9) d (viF B L f k 1) (viF B L f k 2) = false := by simpa using ct
        rw [ct'] at e3
        obtain ⟨g2, n2, F2, E2⟩ := E1.note R1.tag (s' := 4) (p' := f) (by omega) (by omega) (by omega) (by omega)
        refine ⟨g2, ?_, F1.trans F2, by rw [show min (min 9999 (8 * f + 3)) (8 * f + 4) = 8 * f + 3 by omega] at E2; exact E2⟩
        simp (disch := omega) only [j_X7_noteFirstToken_34, j_X7_noteFirstToken_61, R1.r1, R1.r0, rc_ok H1.tag, rc_ok R1.tag, e1, e2, e3, bI, bN, cond_false, P1.f1, n2, lm8, lm2, lm1, l0, l1, l2, l3, l4, l5, l6, l7, l8, l9, l10, l11, l12, l13, l14, l15, l16, l17, l18, l19, l20, l21, l22, l23, l24, l25, l27, l31, l32, l40, l46, l48, l50, l57, l59, l63, l86, l96, l97, l100, l110, l114, l122, l127, l200, l255, l300, l319, l320, l340, l441, l456, l580, l600, l800, l886, l1206, l1526, J_add, J_sub, J_mul, J_neg, J_lt, J_le, J_eq, jT, jF, iT, iF, eT, eF, aT, aF, ite_true, ite_false, ite_not, bs]
    · rw [if_neg c10]
      have a1 : m_X7_noteFirstToken r h = j_X7_noteFirstToken_34 r (J d) h := by
        simp (disch := omega) only [m_X7_noteFirstToken, R.r0, R.r1, rc_ok P.tag, rc_ok H.tag, v0, ev, lm8, lm2, lm1, l0, l1, l2, l3, l4, l5, l6, l7, l8, l9, l10, l11, l12, l13, l14, l15, l16, l17, l18, l19, l20, l21, l22, l23, l24, l25, l27, l31, l32, l40, l46, l48, l50, l57, l59, l63, l86, l96, l97, l100, l110, l114, l122, l127, l200, l255, l300, l319, l320, l340, l441, l456, l580, l600, l800, l886, l1206, l1526, J_add, J_sub, J_mul, J_neg, J_lt, J_le, J_eq, jT, jF, iT, iF, eT, eF, aT, aF, ite_true, ite_false, ite_not, bs]
      rw [a1]
      by_cases ct : thB T (k - 9) d (viF B L f k 1) (viF B L f k 2) = true
      · rw [if_pos ct]
        rw [ct] at e3
        refine ⟨h, ?_, FR.refl _ _, E⟩
        simp (disch := omega) only [j_X7_noteFirstToken_34, R.r1, rc_ok H.tag, rc_ok R.tag, e1, e2, e3, bI, bN, cond_true, lm8, lm2, lm1, l0, l1, l2, l3, l4, l5, l6, l7, l8, l9, l10, l11, l12, l13, l14, l15, l16, l17, l18, l19, l20, l21, l22, l23, l24, l25, l27, l31, l32, l40, l46, l48, l50, l57, l59, l63, l86, l96, l97, l100, l110, l114, l122, l127, l200, l255, l300, l319, l320, l340, l441, l456, l580, l600, l800, l886, l1206, l1526, J_add, J_sub, J_mul, J_neg, J_lt, J_le, J_eq, jT, jF, iT, iF, eT, eF, aT, aF, ite_true, ite_false, ite_not, bs]
      · rw [if_neg ct]
        have ct' : thB T (k - 9) d (viF B L f k 1) (viF B L f k 2) = false := by simpa using ct
        rw [ct'] at e3
        obtain ⟨g2, n2, F2, E2⟩ := E.note R.tag (s' := 4) (p' := f) (by omega) (by omega) (by omega) (by omega)
        refine ⟨g2, ?_, F2, by rw [show min 9999 (8 * f + 4) = 8 * f + 4 by omega] at E2; exact E2⟩
        simp (disch := omega) only [j_X7_noteFirstToken_34, j_X7_noteFirstToken_61, R.r1, R.r0, rc_ok H.tag, rc_ok R.tag, e1, e2, e3, bI, bN, cond_false, P.f1, n2, lm8, lm2, lm1, l0, l1, l2, l3, l4, l5, l6, l7, l8, l9, l10, l11, l12, l13, l14, l15, l16, l17, l18, l19, l20, l21, l22, l23, l24, l25, l27, l31, l32, l40, l46, l48, l50, l57, l59, l63, l86, l96, l97, l100, l110, l114, l122, l127, l200, l255, l300, l319, l320, l340, l441, l456, l580, l600, l800, l886, l1206, l1526, J_add, J_sub, J_mul, J_neg, J_lt, J_le, J_eq, jT, jF, iT, iF, eT, eF, aT, aF, ite_true, ite_false, ite_not, bs]
  · rw [if_neg c]
    have e1 := H.hasDocF (d := d) (by omega) (by omega) (by omega)
    have z := H.wf.2.2.1 d (by omega) (by omega)
    rw [z] at ev
    obtain ⟨g2, n2, F2, E2⟩ := E.note R.tag (s' := 4) (p' := f) (by omega) (by omega) (by omega) (by omega)
    refine ⟨g2, ?_, F2, by rw [show min 9999 (8 * f + 4) = 8 * f + 4 by omega] at E2; exact E2⟩
    simp (disch := omega) only [m_X7_noteFirstToken, j_X7_noteFirstToken_34, j_X7_noteFirstToken_61, R.r0, R.r1, rc_ok P.tag, rc_ok H.tag, rc_ok R.tag, v0, ev, e1, P.f1, n2, lm8, lm2, lm1, l0, l1, l2, l3, l4, l5, l6, l7, l8, l9, l10, l11, l12, l13, l14, l15, l16, l17, l18, l19, l20, l21, l22, l23, l24, l25, l27, l31, l32, l40, l46, l48, l50, l57, l59, l63, l86, l96, l97, l100, l110, l114, l122, l127, l200, l255, l300, l319, l320, l340, l441, l456, l580, l600, l800, l886, l1206, l1526, J_add, J_sub, J_mul, J_neg, J_lt, J_le, J_eq, jT, jF, iT, iF, eT, eF, aT, aF, ite_true, ite_false, ite_not, bs]
theorem ex_no (W : LnW B L f k) (c : moK k ≠ true) : nwF B L f k = wCk k := by
  have := (ex_spec (B := B) (k := k) W.1.2.2 W.1.1 W.1.2.1).2.2.2.2 c
  unfold nwF
  omega
/-- what a line without faults keeps to -/
def GoodA (B : Int → Int) (L : Int) (T : Int → Int) (f k : Int) : Prop := e2n B L f k 0 = 9999 ∧ e2w B L f k = 9999 ∧ (k = 8 → T 0 < 4 ∧ nwF B L f k ≤ 20) ∧ (9 ≤ k → (0 ≤ viF B L f k 0 ∧ viF B L f k 0 < T 0) ∧ T (1 + viF B L f k 0) ≤ 9 ∧ thB T (k - 9) (viF B L f k 0) (viF B L f k 1) (viF B L f k 2) = true ∧ (k = 9 → lnT T (viF B L f k 0) (T (1 + viF B L f k 0) - 1) + nwF B L f k ≤ 20))
theorem elA_ok (W : LnW B L f k) (A : AW T) (k8 : 8 ≤ k) (k12 : k ≤ 12) (h : elA B L T f k = 9999) : GoodA B L T f k := by
  have hw := W.1
  have kr := kk_rg k
  have l1 : e2n B L f k 0 ≤ 9999 := bnU_le
  have wb : ∀ m, 0 ≤ m → m < nwF B L f k → 8 * wpF B L f k m + 3 < 9999 := fun m m0 m1 => by
    have := W.wrd m0 m1
    omega
  have le3 : ∀ m, 0 ≤ m → e3w B L f k m ≤ 9999 ∧ (e3w B L f k m = 9999 → nwF B L f k ≤ m) := fun m m0 => by
    unfold e3w
    by_cases c : m < nwF B L f k
    · rw [if_pos c]
      have := wb m m0 c
      omega
    · rw [if_neg c]
      omega
  have l2 : e2w B L f k ≤ 9999 := by
    have ms := W.ms
    unfold e2w
    split <;> omega
  unfold elA eFA eWA at h
  by_cases c8 : k = 8
  · rw [if_pos c8, if_pos c8] at h
    have a := le3 20 (by omega)
    refine ⟨by split at h <;> omega, by split at h <;> omega, fun _ => ?_, fun q => by omega⟩
    split at h
    · omega
    · exact ⟨by omega, a.2 (by omega)⟩
  · rw [if_neg c8, if_neg c8] at h
    have nk : 2 ≤ nCk k := by
      unfold nCk
      rw [if_neg (by omega), if_neg (by omega), if_neg (by omega), if_neg (by omega)]
      repeat' split
      all_goals omega
    have n0 := (W.num (j := 0) (by omega) (by omega)).2
    have lf : ftE T f k (viF B L f k 0) (viF B L f k 1) (viF B L f k 2) ≤ 9999 := by
      unfold ftE
      repeat' split
      all_goals omega
    have ll := ll_rg A (d := viF B L f k 0) n0.1
    have a := le3 (20 - latT T (viF B L f k 0)) (by omega)
    have w0 : (if k = 9 then e3w B L f k (20 - latT T (viF B L f k 0)) else 9999) ≤ 9999 := by split <;> omega
    have e2 : min (e2n B L f k 0) (e2w B L f k) = 9999 := by
      by_cases q : min (e2n B L f k 0) (e2w B L f k) = 9999
      · exact q
      · rw [if_neg q] at h
        omega
    rw [if_pos e2] at h
    have f9 : ftE T f k (viF B L f k 0) (viF B L f k 1) (viF B L f k 2) = 9999 := by omega
    have w9 : (if k = 9 then e3w B L f k (20 - latT T (viF B L f k 0)) else 9999) = 9999 := by omega
    refine ⟨by omega, by omega, fun q => absurd q c8, fun _ => ?_⟩
    unfold ftE at f9
    by_cases cd : viF B L f k 0 < T 0
    · rw [if_pos cd] at f9
      by_cases c10 : 10 ≤ T (1 + viF B L f k 0)
      · rw [if_pos c10] at f9
        omega
      · rw [if_neg c10] at f9
        by_cases ct : thB T (k - 9) (viF B L f k 0) (viF B L f k 1) (viF B L f k 2) = true
        · refine ⟨⟨n0.1, cd⟩, by omega, ct, fun q => ?_⟩
          rw [if_pos q] at w9
          have := a.2 w9
          unfold latT at this
          rw [if_pos cd] at this
          omega
        · rw [if_neg ct] at f9
          omega
    · rw [if_neg cd] at f9
      omega
theorem ABd_sub {r : Nat} {s : Int} {b k : Nat} (q : ABd (r + 6) s b k) : Amk r b k := by
  unfold ABd at q
  unfold Amk
  omega
theorem LnP.make (P : LnP h (r + 1) B L f k) (R : TRd (top h) r) (W : LnW B L f k) (H : CA h (r + 6) T) (D : DA h (r + 6) T) (k8 : 8 ≤ k) (k12 : k ≤ 12) (G : GoodA B L T f k) (h5 : T 5 + nwF B L f k ≤ 319) (hdt : dt = nvT T) (dt1 : dt < 2147483648) : ∃ h', m_X7_makeVersion r (J dt) h = some h' ∧ FR (Amk r) h h' ∧ CA h' (r + 6) (stpA B L T f k dt) ∧ DA h' (r + 6) (stpA B L T f k dt) := by
  have h0 := H.wf.n0
  have hw := W.1
  have kr := kk_rg k
  have ex := ex_spec (B := B) (k := k) W.1.2.2 W.1.1 W.1.2.1
  have nw0 : 0 ≤ nwF B L f k := by unfold nwF; omega
  have dt0 : 0 ≤ dt := by
    rw [hdt]
    exact (sumZ_nonneg (n := T 0) (f := fun d => T (1 + d)) (c := 10) h0.1 (fun i i0 i1 => by have := H.wf.2.1 i i0 i1; omega)).1
  obtain ⟨g1, g2, g3, g4⟩ := G
  have hws : ∀ i, 0 ≤ i → i < nwF B L f k → wrg (wnL B L f k i) := fun i i0 i1 => (W.ok g2 i0 i1).1
  have hsp : ∀ (s : Int) (g : Hp), nwF B L f k ≤ 20 → FR (ABd (r + 6) s) h g → ∀ i, 0 ≤ i → i < nwF B L f k → m_X5_at (r + 1 + 3) (J i) g = some (J (wide (wnL B L f k i))) := fun s g n20 F i i0 i1 => (P.frame F (fun b k b0 b1 => by unfold ABd; omega)).words W g2 i0 i1 (by omega)
  have r7 : gfR h (r + 1) 5 7 = some (r + 1 + 3) := gfR_ok P.1.1.1 P.1.1.2.2.2.1.1
  have v00 : m_X4_value (r + 1) (J 0) h = some (J (if 0 < nCk k then viF B L f k 0 else hE h (r + 1 + 1) 0)) := by
    by_cases c : 0 < nCk k
    · rw [if_pos c]
      exact P.value (by omega) c
    · rw [if_neg c]
      have r5 : gfR h (r + 1) 5 5 = some (r + 1 + 1) := gfR_ok P.1.1.1 P.1.1.2.1.1
      unfold m_X4_value
      rw [r5, bs, X5_at_ok P.1.1.2.1.2 (by omega) (by omega) (by omega), bs, atE_in (by omega) (by omega)]
  have e0 := P.f0
  unfold stpA
  by_cases c8 : k = 8
  · rw [if_pos c8]
    have g3 := g3 c8
    obtain ⟨h', a1, a2, a3, a4⟩ := H.addDocument (a := r + 1 + 3) (dt := dt) g3.1 nw0 g3.2 h5 hws (fun g F => hsp _ g g3.2 F) (by omega) (by omega)
    rw [c8] at e0
    refine ⟨h', ?_, a2.mono (fun b k q => ABd_sub q), a3, D.mk H.wf (VK_doc H.wf g3.1 nw0 g3.2 h5 hws) hdt a2 a4⟩
    simp (disch := omega) only [m_X7_makeVersion, R.r0, R.r1, e0, rc_ok P.tag, rc_ok H.tag, v00, r7, P.f3, a1, lm8, lm2, lm1, l0, l1, l2, l3, l4, l5, l6, l7, l8, l9, l10, l11, l12, l13, l14, l15, l16, l17, l18, l19, l20, l21, l22, l23, l24, l25, l27, l31, l32, l40, l46, l48, l50, l57, l59, l63, l86, l96, l97, l100, l110, l114, l122, l127, l200, l255, l300, l319, l320, l340, l441, l456, l580, l600, l800, l886, l1206, l1526, J_add, J_sub, J_mul, J_neg, J_lt, J_le, J_eq, jT, jF, iT, iF, eT, eF, aT, aF, ite_true, ite_false, ite_not, bs]
  · rw [if_neg c8]
    obtain ⟨⟨d0, d1⟩, v9, th, g5⟩ := g4 (by omega)
    have nk : 2 ≤ nCk k := by
      unfold nCk
      rw [if_neg (by omega), if_neg (by omega), if_neg (by omega), if_neg (by omega)]
      repeat' split
      all_goals omega
    rw [if_pos (by omega)] at v00
    have v01 := P.value (j := 1) (by omega) (by omega)
    have n1 := (W.num (j := 1) (by omega) (by omega)).2
    have hn := H.wf.2.1 _ d0 d1
    have hv : vvT T (viF B L f k 0) (T (1 + viF B L f k 0) - 1) := ⟨d0, d1, by omega, by omega⟩
    unfold thB at th
    by_cases c9 : k = 9
    · rw [if_pos c9]
      have g5 := g5 c9
      rw [if_pos (by omega)] at th
      have th := of_decide_eq_true th
      have hl := H.wf.ln hv
      obtain ⟨h', a1, a2, a3, a4⟩ := H.putWords (a := r + 1 + 3) (dt := dt) hv v9 n1.1 th nw0 g5 h5 hws (fun g F => hsp _ g (by omega) F) (by omega) (by omega)
      rw [c9] at e0
      refine ⟨h', ?_, a2.mono (fun b k q => ABd_sub q), a3, D.mk H.wf (VK_put H.wf hv v9 n1.1 th nw0 g5 h5 hws) hdt a2 a4⟩
      simp (disch := omega) only [m_X7_makeVersion, R.r0, R.r1, e0, rc_ok P.tag, rc_ok H.tag, v00, v01, r7, P.f3, a1, lm8, lm2, lm1, l0, l1, l2, l3, l4, l5, l6, l7, l8, l9, l10, l11, l12, l13, l14, l15, l16, l17, l18, l19, l20, l21, l22, l23, l24, l25, l27, l31, l32, l40, l46, l48, l50, l57, l59, l63, l86, l96, l97, l100, l110, l114, l122, l127, l200, l255, l300, l319, l320, l340, l441, l456, l580, l600, l800, l886, l1206, l1526, J_add, J_sub, J_mul, J_neg, J_lt, J_le, J_eq, jT, jF, iT, iF, eT, eF, aT, aF, ite_true, ite_false, ite_not, bs]
    · rw [if_neg c9]
      rw [if_neg (by omega)] at th
      by_cases c10 : k = 10
      · rw [if_pos c10]
        rw [if_pos (by omega)] at th
        have th := of_decide_eq_true th
        have nk3 : nCk k = 3 := by rw [c10]; rfl
        have v02 := P.value (j := 2) (by omega) (by omega)
        have n2 := (W.num (j := 2) (by omega) (by omega)).2
        obtain ⟨h', a1, a2, a3, a4⟩ := H.cutWords (ws := wnL B L f k) (dt := dt) hv v9 n1.1 n2.1 th (by omega) (by omega)
        rw [c10] at e0
        refine ⟨h', ?_, a2.mono (fun b k q => ABd_sub q), a3, D.mk H.wf (VK_cut H.wf hv v9 n1.1 n2.1 th) hdt a2 a4⟩
        simp (disch := omega) only [m_X7_makeVersion, R.r0, R.r1, e0, rc_ok P.tag, rc_ok H.tag, v00, v01, v02, a1, lm8, lm2, lm1, l0, l1, l2, l3, l4, l5, l6, l7, l8, l9, l10, l11, l12, l13, l14, l15, l16, l17, l18, l19, l20, l21, l22, l23, l24, l25, l27, l31, l32, l40, l46, l48, l50, l57, l59, l63, l86, l96, l97, l100, l110, l114, l122, l127, l200, l255, l300, l319, l320, l340, l441, l456, l580, l600, l800, l886, l1206, l1526, J_add, J_sub, J_mul, J_neg, J_lt, J_le, J_eq, jT, jF, iT, iF, eT, eF, aT, aF, ite_true, ite_false, ite_not, bs]
      · rw [if_neg c10]
        rw [if_neg (by omega)] at th
        by_cases c11 : k = 11
        · rw [if_pos c11]
          rw [if_pos (by omega)] at th
          have th := of_decide_eq_true th
          have nk3 : nCk k = 3 := by rw [c11]; rfl
          have v02 := P.value (j := 2) (by omega) (by omega)
          have n2 := (W.num (j := 2) (by omega) (by omega)).2
          obtain ⟨h', a1, a2, a3, a4⟩ := H.moveWord (ws := wnL B L f k) (dt := dt) hv v9 n1.1 th.1 n2.1 th.2 (by omega) (by omega)
          rw [c11] at e0
          refine ⟨h', ?_, a2.mono (fun b k q => ABd_sub q), a3, D.mk H.wf (VK_mov H.wf hv v9 n1.1 th.1 n2.1 th.2) hdt a2 a4⟩
          simp (disch := omega) only [m_X7_makeVersion, R.r0, R.r1, e0, rc_ok P.tag, rc_ok H.tag, v00, v01, v02, a1, lm8, lm2, lm1, l0, l1, l2, l3, l4, l5, l6, l7, l8, l9, l10, l11, l12, l13, l14, l15, l16, l17, l18, l19, l20, l21, l22, l23, l24, l25, l27, l31, l32, l40, l46, l48, l50, l57, l59, l63, l86, l96, l97, l100, l110, l114, l122, l127, l200, l255, l300, l319, l320, l340, l441, l456, l580, l600, l800, l886, l1206, l1526, J_add, J_sub, J_mul, J_neg, J_lt, J_le, J_eq, jT, jF, iT, iF, eT, eF, aT, aF, ite_true, ite_false, ite_not, bs]
        · rw [if_neg c11]
          rw [if_neg (by omega)] at th
          have th := of_decide_eq_true th
          have c12 : k = 12 := by omega
          have hv2 : vvT T (viF B L f k 0) (viF B L f k 1) := ⟨d0, d1, n1.1, th⟩
          obtain ⟨h', a1, a2, a3, a4⟩ := H.goBack (ws := wnL B L f k) (dt := dt) hv2 v9 (by omega) (by omega)
          rw [c12] at e0
          refine ⟨h', ?_, a2.mono (fun b k q => ABd_sub q), a3, D.mk H.wf (VK_bck H.wf hv2 v9) hdt a2 a4⟩
          simp (disch := omega) only [m_X7_makeVersion, R.r0, R.r1, e0, rc_ok P.tag, rc_ok H.tag, v00, v01, a1, lm8, lm2, lm1, l0, l1, l2, l3, l4, l5, l6, l7, l8, l9, l10, l11, l12, l13, l14, l15, l16, l17, l18, l19, l20, l21, l22, l23, l24, l25, l27, l31, l32, l40, l46, l48, l50, l57, l59, l63, l86, l96, l97, l100, l110, l114, l122, l127, l200, l255, l300, l319, l320, l340, l441, l456, l580, l600, l800, l886, l1206, l1526, J_add, J_sub, J_mul, J_neg, J_lt, J_le, J_eq, jT, jF, iT, iF, eT, eF, aT, aF, ite_true, ite_false, ite_not, bs]
/-- a line of an archive taken -/
theorem LnP.takeVersion (P : LnP h (r + 1) B L f k) (R : TRd (top h) r) (W : LnW B L f k) (H : CA h (r + 6) T) (D : DA h (r + 6) T) (k8 : 8 ≤ k) (k12 : k ≤ 12) (E : ENc h r (min (e2n B L f k 0) (e2w B L f k))) (h5 : nwF B L f k ≤ 20 → T 5 + nwF B L f k ≤ 319) (hdt : dt = nvT T) (dt1 : dt < 2147483648) : ∃ h', m_X7_takeVersion r (J dt) h = some h' ∧ FR (Atv r) h h' ∧ ENc h' r (elA B L T f k) ∧ CA h' (r + 6) (if elA B L T f k = 9999 then stpA B L T f k dt else T) ∧ DA h' (r + 6) (if elA B L T f k = 9999 then stpA B L T f k dt else T) := by
  have hw := W.1
  have le := E.le
  have h0 := H.wf.n0
  have fin : ∀ g, FR (Afc r) h g → ENc g r (elA B L T f k) → ∃ h', j_X7_takeVersion_89 r (J dt) g = some h' ∧ FR (Atv r) h h' ∧ ENc h' r (elA B L T f k) ∧ CA h' (r + 6) (if elA B L T f k = 9999 then stpA B L T f k dt else T) ∧ DA h' (r + 6) (if elA B L T f k = 9999 then stpA B L T f k dt else T) := fun g F G => by
    have R' := R.fr F
    have P' := P.frc F
    have H' := H.frc F
    have D' := D.frc F
    obtain ⟨s, q1, q2, q3⟩ := G.is R'.tag
    by_cases c : elA B L T f k = 9999
    · rw [if_pos c]
      have s0 := q3.mpr c
      rw [s0] at q1
      have GA := elA_ok W H.wf k8 k12 c
      have n20 : nwF B L f k ≤ 20 := by
        by_cases c8 : k = 8
        · exact (GA.2.2.1 c8).2
        · by_cases c9 : k = 9
          · have g := GA.2.2.2 (by omega)
            have hn := H.wf.2.1 _ g.1.1 g.1.2
            have hl := H.wf.ln (d := viF B L f k 0) (v := T (1 + viF B L f k 0) - 1) ⟨g.1.1, g.1.2, by omega, by omega⟩
            have := g.2.2.2 c9
            omega
          · have m : moK k ≠ true := fun q => by
              have := of_decide_eq_true q
              omega
            rw [ex_no W m]
            have kr := kk_rg k
            omega
      obtain ⟨h', a1, a2, a3, a4⟩ := P'.make R' W H' D' k8 k12 GA (h5 n20) hdt dt1
      refine ⟨h', ?_, (F.mono (fun b k q => Or.inl q)).trans (a2.mono (fun b k q => Or.inr q)), G.frame a2 (by unfold Amk; omega) (by unfold Amk; omega), a3, a4⟩
      simp (disch := omega) only [j_X7_takeVersion_89, q1, rc_ok R'.tag, a1, lm8, lm2, lm1, l0, l1, l2, l3, l4, l5, l6, l7, l8, l9, l10, l11, l12, l13, l14, l15, l16, l17, l18, l19, l20, l21, l22, l23, l24, l25, l27, l31, l32, l40, l46, l48, l50, l57, l59, l63, l86, l96, l97, l100, l110, l114, l122, l127, l200, l255, l300, l319, l320, l340, l441, l456, l580, l600, l800, l886, l1206, l1526, J_add, J_sub, J_mul, J_neg, J_lt, J_le, J_eq, jT, jF, iT, iF, eT, eF, aT, aF, ite_true, ite_false, ite_not, bs]
    · rw [if_neg c]
      have s0 : s < 0 ∨ 0 < s := by omega
      refine ⟨g, ?_, F.mono (fun b k q => Or.inl q), G, H', D'⟩
      simp (disch := first | omega | exact s0) only [j_X7_takeVersion_89, q1, lm8, lm2, lm1, l0, l1, l2, l3, l4, l5, l6, l7, l8, l9, l10, l11, l12, l13, l14, l15, l16, l17, l18, l19, l20, l21, l22, l23, l24, l25, l27, l31, l32, l40, l46, l48, l50, l57, l59, l63, l86, l96, l97, l100, l110, l114, l122, l127, l200, l255, l300, l319, l320, l340, l441, l456, l580, l600, l800, l886, l1206, l1526, J_add, J_sub, J_mul, J_neg, J_lt, J_le, J_eq, jT, jF, iT, iF, eT, eF, aT, aF, ite_true, ite_false, ite_not, bs]
  have e0 := P.f0
  by_cases c8 : k = 8
  · have eA : elA B L T f k = min (min (e2n B L f k 0) (e2w B L f k)) (min (if 4 ≤ T 0 then 8 * f + 3 else 9999) (e3w B L f k 20)) := by
      unfold elA eFA eWA
      rw [if_pos c8, if_pos c8]
    have e0' := e0
    rw [c8] at e0'
    by_cases c4 : 4 ≤ T 0
    · rw [if_pos c4] at eA
      obtain ⟨g1, n1, F1, E1⟩ := E.note R.tag (s' := 3) (p' := f) (by omega) (by omega) (by omega) (by omega)
      obtain ⟨g2, n2, F2, E2⟩ := (P.frc F1).tooMany (R.fr F1) W E1 (m := 20) (by omega) (by omega)
      obtain ⟨h', a1, a2⟩ := fin g2 (F1.trans F2) (by rw [eA, show min (min (e2n B L f k 0) (e2w B L f k)) (min (8 * f + 3) (e3w B L f k 20)) = min (min (min (e2n B L f k 0) (e2w B L f k)) (8 * f + 3)) (e3w B L f k 20) by omega]; exact E2)
      refine ⟨h', ?_, a2⟩
      rw [← a1]
      simp (disch := omega) only [m_X7_takeVersion, j_X7_takeVersion_35, R.r0, R.r1, e0', H.f0, P.f1, rc_ok R.tag, rc_ok (R.fr F1).tag, n1, n2, lm8, lm2, lm1, l0, l1, l2, l3, l4, l5, l6, l7, l8, l9, l10, l11, l12, l13, l14, l15, l16, l17, l18, l19, l20, l21, l22, l23, l24, l25, l27, l31, l32, l40, l46, l48, l50, l57, l59, l63, l86, l96, l97, l100, l110, l114, l122, l127, l200, l255, l300, l319, l320, l340, l441, l456, l580, l600, l800, l886, l1206, l1526, J_add, J_sub, J_mul, J_neg, J_lt, J_le, J_eq, jT, jF, iT, iF, eT, eF, aT, aF, ite_true, ite_false, ite_not, bs]
    · rw [if_neg c4] at eA
      obtain ⟨g2, n2, F2, E2⟩ := P.tooMany R W E (m := 20) (by omega) (by omega)
      have l3 := E2.le
      obtain ⟨h', a1, a2⟩ := fin g2 F2 (by rw [eA, show min (min (e2n B L f k 0) (e2w B L f k)) (min 9999 (e3w B L f k 20)) = min (min (e2n B L f k 0) (e2w B L f k)) (e3w B L f k 20) by omega]; exact E2)
      refine ⟨h', ?_, a2⟩
      rw [← a1]
      simp (disch := omega) only [m_X7_takeVersion, j_X7_takeVersion_35, R.r0, R.r1, e0', H.f0, rc_ok R.tag, n2, lm8, lm2, lm1, l0, l1, l2, l3, l4, l5, l6, l7, l8, l9, l10, l11, l12, l13, l14, l15, l16, l17, l18, l19, l20, l21, l22, l23, l24, l25, l27, l31, l32, l40, l46, l48, l50, l57, l59, l63, l86, l96, l97, l100, l110, l114, l122, l127, l200, l255, l300, l319, l320, l340, l441, l456, l580, l600, l800, l886, l1206, l1526, J_add, J_sub, J_mul, J_neg, J_lt, J_le, J_eq, jT, jF, iT, iF, eT, eF, aT, aF, ite_true, ite_false, ite_not, bs]
  · have eA : elA B L T f k = min (min (e2n B L f k 0) (e2w B L f k)) (min (if min (e2n B L f k 0) (e2w B L f k) = 9999 then ftE T f k (viF B L f k 0) (viF B L f k 1) (viF B L f k 2) else 9999) (if k = 9 then e3w B L f k (20 - latT T (viF B L f k 0)) else 9999)) := by
      unfold elA eFA eWA
      rw [if_neg c8, if_neg c8]
    have nk : 2 ≤ nCk k := by
      unfold nCk
      rw [if_neg (by omega), if_neg (by omega), if_neg (by omega), if_neg (by omega)]
      repeat' split
      all_goals omega
    have c8' : k < 8 ∨ 8 < k := by omega
    have n0 := (W.num (j := 0) (by omega) (by omega)).2
    -- behind the first token
    have rest : ∀ (g : Hp) (X : Int), FR (Afc r) h g → ENc g r X → elA B L T f k = min X (if k = 9 then e3w B L f k (20 - latT T (viF B L f k 0)) else 9999) → ∃ h', j_X7_takeVersion_55 r (J dt) g = some h' ∧ FR (Atv r) h h' ∧ ENc h' r (elA B L T f k) ∧ CA h' (r + 6) (if elA B L T f k = 9999 then stpA B L T f k dt else T) ∧ DA h' (r + 6) (if elA B L T f k = 9999 then stpA B L T f k dt else T) := fun g X F G hX => by
      have R' := R.fr F
      have P' := P.frc F
      have H' := H.frc F
      have lX := G.le
      have e0' := P'.f0
      by_cases c9 : k = 9
      · rw [if_pos c9] at hX
        have ll := ll_rg H.wf (d := viF B L f k 0) n0.1
        have v0 := P'.value (j := 0) (by omega) (by omega)
        have el := H'.latestLength (d := viF B L f k 0) n0.1 (by omega)
        obtain ⟨g2, n2, F2, E2⟩ := P'.tooMany R' W G (m := 20 - latT T (viF B L f k 0)) (by omega) (by omega)
        rw [← hX] at E2
        obtain ⟨h', a1, a2⟩ := fin g2 (F.trans F2) E2
        refine ⟨h', ?_, a2⟩
        rw [← a1]
        rw [c9] at e0'
        simp (disch := omega) only [j_X7_takeVersion_55, R'.r0, R'.r1, e0', rc_ok P'.tag, rc_ok H'.tag, rc_ok R'.tag, v0, el, n2, lm8, lm2, lm1, l0, l1, l2, l3, l4, l5, l6, l7, l8, l9, l10, l11, l12, l13, l14, l15, l16, l17, l18, l19, l20, l21, l22, l23, l24, l25, l27, l31, l32, l40, l46, l48, l50, l57, l59, l63, l86, l96, l97, l100, l110, l114, l122, l127, l200, l255, l300, l319, l320, l340, l441, l456, l580, l600, l800, l886, l1206, l1526, J_add, J_sub, J_mul, J_neg, J_lt, J_le, J_eq, jT, jF, iT, iF, eT, eF, aT, aF, ite_true, ite_false, ite_not, bs]
      · rw [if_neg c9, show min X 9999 = X by omega] at hX
        have c9' : k < 9 ∨ 9 < k := by omega
        rw [← hX] at G
        obtain ⟨h', a1, a2⟩ := fin g F G
        refine ⟨h', ?_, a2⟩
        rw [← a1]
        simp (disch := first | omega | exact c9') only [j_X7_takeVersion_55, R'.r0, e0', lm8, lm2, lm1, l0, l1, l2, l3, l4, l5, l6, l7, l8, l9, l10, l11, l12, l13, l14, l15, l16, l17, l18, l19, l20, l21, l22, l23, l24, l25, l27, l31, l32, l40, l46, l48, l50, l57, l59, l63, l86, l96, l97, l100, l110, l114, l122, l127, l200, l255, l300, l319, l320, l340, l441, l456, l580, l600, l800, l886, l1206, l1526, J_add, J_sub, J_mul, J_neg, J_lt, J_le, J_eq, jT, jF, iT, iF, eT, eF, aT, aF, ite_true, ite_false, ite_not, bs]
    obtain ⟨s, q1, q2, q3⟩ := E.is R.tag
    by_cases c : min (e2n B L f k 0) (e2w B L f k) = 9999
    · rw [if_pos c, c] at eA
      have s0 := q3.mpr c
      rw [s0] at q1
      rw [c] at E
      have v3 : viF B L f k 0 ≤ 3 := by
        have l1 : e2n B L f k 0 ≤ 9999 := bnU_le
        have a := (e2n_ok W (own := 0) (by omega) (j := 0) (by omega) (by omega)).2
        unfold hiV at a
        rw [if_neg (by omega)] at a
        repeat' split at a
        all_goals omega
      obtain ⟨g1, n1, F1, E1⟩ := P.first R W H (by omega) k12 E v3
      have l1 := E1.le
      obtain ⟨h', a1, a2⟩ := rest g1 _ F1 E1 (by rw [eA]; generalize (if k = 9 then e3w B L f k (20 - latT T (viF B L f k 0)) else 9999) = w; omega)
      refine ⟨h', ?_, a2⟩
      rw [← a1]
      simp (disch := first | omega | exact c8') only [m_X7_takeVersion, R.r0, e0, q1, rc_ok R.tag, n1, lm8, lm2, lm1, l0, l1, l2, l3, l4, l5, l6, l7, l8, l9, l10, l11, l12, l13, l14, l15, l16, l17, l18, l19, l20, l21, l22, l23, l24, l25, l27, l31, l32, l40, l46, l48, l50, l57, l59, l63, l86, l96, l97, l100, l110, l114, l122, l127, l200, l255, l300, l319, l320, l340, l441, l456, l580, l600, l800, l886, l1206, l1526, J_add, J_sub, J_mul, J_neg, J_lt, J_le, J_eq, jT, jF, iT, iF, eT, eF, aT, aF, ite_true, ite_false, ite_not, bs]
    · rw [if_neg c] at eA
      have s0 : s < 0 ∨ 0 < s := by omega
      obtain ⟨h', a1, a2⟩ := rest h _ (FR.refl _ _) E (by rw [eA]; generalize (if k = 9 then e3w B L f k (20 - latT T (viF B L f k 0)) else 9999) = w; omega)
      refine ⟨h', ?_, a2⟩
      rw [← a1]
      simp (disch := first | omega | exact c8' | exact s0) only [m_X7_takeVersion, R.r0, e0, q1, lm8, lm2, lm1, l0, l1, l2, l3, l4, l5, l6, l7, l8, l9, l10, l11, l12, l13, l14, l15, l16, l17, l18, l19, l20, l21, l22, l23, l24, l25, l27, l31, l32, l40, l46, l48, l50, l57, l59, l63, l86, l96, l97, l100, l110, l114, l122, l127, l200, l255, l300, l319, l320, l340, l441, l456, l580, l600, l800, l886, l1206, l1526, J_add, J_sub, J_mul, J_neg, J_lt, J_le, J_eq, jT, jF, iT, iF, eT, eF, aT, aF, ite_true, ite_false, ite_not, bs]
end VT
