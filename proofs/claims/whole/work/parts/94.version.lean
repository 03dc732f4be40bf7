/-! PURE PART: a version taken, the class -/
def wnL (B : Int → Int) (L f k j : Int) : Int := wdN B (wpF B L f k j) (toF B L (wpF B L f k j) - wpF B L f k j)
/-- how many words the latest version has -/
def latT (T : Int → Int) (d : Int) : Int := if d < T 0 then lnT T d (T (1 + d) - 1) else 0
/-- the fault at a line's first token -/
def ftE (T : Int → Int) (f k d a b : Int) : Int := if d < T 0 then (if 10 ≤ T (1 + d) then 8 * f + 3 else if thB T (k - 9) d a b = true then 9999 else 8 * f + 4) else 8 * f + 4
def eFA (B : Int → Int) (L : Int) (T : Int → Int) (f k : Int) : Int := if k = 8 then (if 4 ≤ T 0 then 8 * f + 3 else 9999) else if min (e2n B L f k 0) (e2w B L f k) = 9999 then ftE T f k (viF B L f k 0) (viF B L f k 1) (viF B L f k 2) else 9999
def eWA (B : Int → Int) (L : Int) (T : Int → Int) (f k : Int) : Int := if k = 8 then e3w B L f k 20 else if k = 9 then e3w B L f k (20 - latT T (viF B L f k 0)) else 9999
/-- the fault of a line of an archive -/
def elA (B : Int → Int) (L : Int) (T : Int → Int) (f k : Int) : Int := min (min (e2n B L f k 0) (e2w B L f k)) (min (eFA B L T f k) (eWA B L T f k))
/-- the archive with a line more -/
def stpA (B : Int → Int) (L : Int) (T : Int → Int) (f k dt : Int) : Int → Int :=
  if k = 8 then mkT T 1 (T 0) (nwF B L f k) (wnL B L f k) (nwF B L f k) (fun q => T 5 + q) dt
  else if k = 9 then mkT T 0 (viF B L f k 0) (nwF B L f k) (wnL B L f k) (lnT T (viF B L f k 0) (T (1 + viF B L f k 0) - 1) + nwF B L f k) (rPut T (viF B L f k 0) (T (1 + viF B L f k 0) - 1) (viF B L f k 1) (nwF B L f k)) dt
  else if k = 10 then mkT T 0 (viF B L f k 0) 0 (wnL B L f k) (lnT T (viF B L f k 0) (T (1 + viF B L f k 0) - 1) - viF B L f k 2) (rCut T (viF B L f k 0) (T (1 + viF B L f k 0) - 1) (viF B L f k 1) (viF B L f k 2)) dt
  else if k = 11 then mkT T 0 (viF B L f k 0) 0 (wnL B L f k) (lnT T (viF B L f k 0) (T (1 + viF B L f k 0) - 1)) (rMov T (viF B L f k 0) (T (1 + viF B L f k 0) - 1) (viF B L f k 1) (viF B L f k 2)) dt
  else mkT T 0 (viF B L f k 0) 0 (wnL B L f k) (lnT T (viF B L f k 0) (viF B L f k 1)) (fun q => rwT T (viF B L f k 0) (viF B L f k 1) q) dt
section VE
variable {h h' : Hp} {r o : Nat} {B : Int → Int} {L f k e dt : Int} {T : Int → Int}
theorem CA.latestLength (H : CA h o T) {d : Int} (d0 : 0 ≤ d) (d1 : d < 1000) : m_X0_latestLength o (J d) h = some (J (latT T d)) := by
  have h0 := H.wf.n0
  unfold latT
  by_cases c : d < T 0
  · have hn := H.wf.2.1 d d0 c
    rw [if_pos c]
    have e1 := H.hasDocT d0 c
    have e2 := H.versionsOf d0 (by omega)
    have e3 := H.lengthOf (d := d) (v := T (1 + d) - 1) ⟨d0, c, by omega, by omega⟩
    simp (disch := omega) only [m_X0_latestLength, j_X0_latestLength_24, rc_ok H.tag, e1, e2, e3, lm8, lm2, lm1, l0, l1, l2, l3, l4, l5, l6, l7, l8, l9, l10, l11, l12, l13, l14, l15, l16, l17, l18, l19, l20, l21, l22, l23, l24, l25, l27, l31, l32, l40, l46, l48, l50, l57, l59, l63, l86, l96, l97, l100, l110, l114, l122, l127, l200, l255, l300, l319, l320, l340, l441, l456, l580, l600, l800, l886, l1206, l1526, J_add, J_sub, J_mul, J_neg, J_lt, J_le, J_eq, jT, jF, iT, iF, eT, eF, aT, aF, ite_true, ite_false, ite_not, bs]
  · rw [if_neg c]
    have e1 := H.hasDocF (d := d) (by omega) (by omega) (by omega)
    simp (disch := omega) only [m_X0_latestLength, j_X0_latestLength_24, rc_ok H.tag, e1, lm8, lm2, lm1, l0, l1, l2, l3, l4, l5, l6, l7, l8, l9, l10, l11, l12, l13, l14, l15, l16, l17, l18, l19, l20, l21, l22, l23, l24, l25, l27, l31, l32, l40, l46, l48, l50, l57, l59, l63, l86, l96, l97, l100, l110, l114, l122, l127, l200, l255, l300, l319, l320, l340, l441, l456, l580, l600, l800, l886, l1206, l1526, J_add, J_sub, J_mul, J_neg, J_lt, J_le, J_eq, jT, jF, iT, iF, eT, eF, aT, aF, ite_true, ite_false, ite_not, bs]
theorem ll_rg (A : AW T) {d : Int} (d0 : 0 ≤ d) : 0 ≤ latT T d ∧ latT T d ≤ 20 := by
  unfold latT
  by_cases c : d < T 0
  · rw [if_pos c]
    have hn := A.2.1 d d0 c
    exact A.ln ⟨d0, c, by omega, by omega⟩
  · rw [if_neg c]
    omega
theorem nv_mk {z d m n : Int} {ws q : Int → Int} (A : AW T) (K : VK T z d m ws n q) : nvT (mkT T z d m ws n q dt) = nvT T + 1 := by
  have h0 := A.n0
  have G := K.2.1
  have hd : 0 ≤ d ∧ d < T 0 + z ∧ T 0 + z ≤ 4 ∧ 0 ≤ z := by
    rcases K.1 with ⟨q1, q2, q3⟩ | ⟨q1, q2, q3⟩ <;> omega
  have e1 : nvT (mkT T z d m ws n q dt) = sumZ (T 0 + z) (fun e => T (1 + e) + (if e = d then 1 else 0)) := by
    unfold nvT
    rw [mk_0]
    refine sumZ_congr (fun e e0 e1 => ?_)
    rw [mk_n G e0 (by omega)]
    by_cases c : e = d
    · rw [if_pos c, if_pos c, c]
    · rw [if_neg c, if_neg c, Int.add_zero]
  have e2 : sumZ (T 0 + z) (fun e => T (1 + e) + (if e = d then 1 else 0)) = sumZ (T 0 + z) (fun e => T (1 + e)) + sumZ (T 0 + z) (fun e => if e = d then 1 else 0) := sumN_add
  have e3 : sumZ (T 0 + z) (fun e => if e = d then (1 : Int) else 0) = 1 := by
    rw [sumZ_point (a := d) hd.1 hd.2.1 (fun i i0 i1 i2 => if_neg i2)]
    exact if_pos rfl
  have e4 : sumZ (T 0 + z) (fun e => T (1 + e)) = nvT T := by
    refine sumZ_cut h0.1 (by omega) (fun i i0 i1 => A.2.2.1 i i0 (by omega))
  rw [e1, e2, e3, e4]
theorem DW.mk {z d m n : Int} {ws q : Int → Int} (D : DW T) (A : AW T) (K : VK T z d m ws n q) (hdt : dt = nvT T) : DW (mkT T z d m ws n q dt) := by
  have G := K.2.1
  have h0 : 0 ≤ nvT T := by
    have h0 := A.n0
    have := sumZ_nonneg (n := T 0) (f := fun d => T (1 + d)) (c := 10) h0.1 (fun i i0 i1 => by have := A.2.1 i i0 i1; omega)
    exact this.1
  intro e v hv
  rw [nv_mk A K]
  have hb := (mk_AW (dt := dt) A K).vb hv
  rw [mk_dt G hb.1 hb.2.1 hb.2.2.1 hb.2.2.2]
  by_cases c : e = d ∧ v = T (1 + d)
  · rw [if_pos c]
    omega
  · rw [if_neg c]
    rcases (mk_vv A K).mp hv with q | q
    · have := D e v q
      omega
    · exact absurd q c
theorem DA.mk {z d m n : Int} {ws q : Int → Int} (D : DA h o T) (A : AW T) (K : VK T z d m ws n q) (hdt : dt = nvT T) (F : FR (ABd o (slC T d)) h h') (hc : hE h' (o + 2) (slC T d) = dt) : DA h' o (mkT T z d m ws n q dt) := by
  have G := K.2.1
  refine ⟨D.1.mk A K hdt, fun e v hv => ?_⟩
  have hb := (mk_AW (dt := dt) A K).vb hv
  rw [mk_dt G hb.1 hb.2.1 hb.2.2.1 hb.2.2.2]
  have sl : slC T d = d * 10 + T (1 + d) := rfl
  by_cases c : e = d ∧ v = T (1 + d)
  · rw [if_pos c, c.1, c.2]
    exact hc
  · rw [if_neg c]
    rcases (mk_vv A K).mp hv with q | q
    · rw [F.e (by
        have g1 := G.1
        have g2 := G.2.1
        unfold ABd
        omega), D.2 e v q]
    · exact absurd q c
/-- words well told -/
theorem LnW.ok (W : LnW B L f k) (h2 : e2w B L f k = 9999) {j : Int} (j0 : 0 ≤ j) (j1 : j < nwF B L f k) : wrg (wnL B L f k j) ∧ spL B L f k j = wide (wnL B L f k j) ∧ lgB B L f k j = false := by
  have w := W.wrd j0 j1
  have c := ck_let w.1 w.2.2
  have ms := W.ms
  have m1 : msF B L f k (nwF B L f k) = -1 := by
    unfold e2w at h2
    by_cases c : msF B L f k (nwF B L f k) = -1
    · exact c
    · rw [if_neg c] at h2
      omega
  have lg : lgB B L f k j = false := by
    unfold msF at m1
    rcases fiZ_spec (nwF B L f k) (lgB B L f k) with ⟨e1, e2⟩ | ⟨e1, e2, e3, e4⟩
    · exact e2 j j0 j1
    · rw [if_neg (by omega)] at m1
      have := W.wrd e1 e2
      have := W.1.1
      omega
  have l4 : ¬ 4 < toF B L (wpF B L f k j) - wpF B L f k j := of_decide_eq_false lg
  have s := sp_wide c.2.1 (by omega) c.2.2.2
  exact ⟨s.1, s.2, lg⟩
theorem LnP.words (P : LnP h (r + 1) B L f k) (W : LnW B L f k) (h2 : e2w B L f k = 9999) {j : Int} (j0 : 0 ≤ j) (j1 : j < nwF B L f k) (j2 : j < 21) : m_X5_at (r + 1 + 3) (J j) h = some (J (wide (wnL B L f k j))) := by
  rw [X5_at_ok P.1.1.2.2.2.1.2 (by omega) (by omega) (by omega), atE_in j0 (by omega), (P.1.2.2.2.2.2.2 j j0 j1 j2).1, (W.ok h2 j0 j1).2.1]
theorem X7_isThere_ok (P : LnP h (r + 1) B L f k) (R : TRd (top h) r) (W : LnW B L f k) (H : CA h (r + 6) T) (k9 : 9 ≤ k) (k12 : k ≤ 12) {d : Int} (d0 : 0 ≤ d) (d1 : d < T 0) : m_X7_isThere r (J d) (J (lnT T d (T (1 + d) - 1))) h = some (J (b01 (thB T (k - 9) d (viF B L f k 1) (viF B L f k 2)))) := by
  have h0 := H.wf.n0
  have hn := H.wf.2.1 d d0 d1
  have hl := H.wf.ln (d := d) (v := T (1 + d) - 1) ⟨d0, d1, by omega, by omega⟩
  have nk : 2 ≤ nCk k := by
    unfold nCk
    rw [if_neg (by omega), if_neg (by omega), if_neg (by omega), if_neg (by omega)]
    repeat' split
    all_goals omega
  have v1 := P.value (j := 1) (by omega) (by omega)
  have n1 := (W.num (j := 1) (by omega) (by omega)).2
  have e0 := P.f0
  generalize hL : lnT T d (T (1 + d) - 1) = ln at *
  unfold thB
  rw [hL]
  have : k = 9 ∨ k = 10 ∨ k = 11 ∨ k = 12 := by omega
  rcases this with q | q | q | q
  · rw [q] at e0
    rw [if_pos (by omega)]
    generalize viF B L f k 1 = a at *
    by_cases c : ln < a
    · rw [decide_eq_false (by omega)]
      simp (disch := omega) only [m_X7_isThere, j_X7_isThere_49, R.r0, e0, rc_ok P.tag, v1, zb0, lm8, lm2, lm1, l0, l1, l2, l3, l4, l5, l6, l7, l8, l9, l10, l11, l12, l13, l14, l15, l16, l17, l18, l19, l20, l21, l22, l23, l24, l25, l27, l31, l32, l40, l46, l48, l50, l57, l59, l63, l86, l96, l97, l100, l110, l114, l122, l127, l200, l255, l300, l319, l320, l340, l441, l456, l580, l600, l800, l886, l1206, l1526, J_add, J_sub, J_mul, J_neg, J_lt, J_le, J_eq, jT, jF, iT, iF, eT, eF, aT, aF, ite_true, ite_false, ite_not, bs]
      rfl
    · rw [decide_eq_true (by omega)]
      simp (disch := omega) only [m_X7_isThere, j_X7_isThere_49, R.r0, e0, rc_ok P.tag, v1, zb1, lm8, lm2, lm1, l0, l1, l2, l3, l4, l5, l6, l7, l8, l9, l10, l11, l12, l13, l14, l15, l16, l17, l18, l19, l20, l21, l22, l23, l24, l25, l27, l31, l32, l40, l46, l48, l50, l57, l59, l63, l86, l96, l97, l100, l110, l114, l122, l127, l200, l255, l300, l319, l320, l340, l441, l456, l580, l600, l800, l886, l1206, l1526, J_add, J_sub, J_mul, J_neg, J_lt, J_le, J_eq, jT, jF, iT, iF, eT, eF, aT, aF, ite_true, ite_false, ite_not, bs]
      rfl
  · have nk3 : nCk k = 3 := by rw [q]; rfl
    have v2 := P.value (j := 2) (by omega) (by omega)
    have n2 := (W.num (j := 2) (by omega) (by omega)).2
    rw [q] at e0
    rw [if_neg (by omega), if_pos (by omega)]
    generalize viF B L f k 1 = a at *
    generalize viF B L f k 2 = b at *
    by_cases c : ln < a + b
    · rw [decide_eq_false (by omega)]
      simp (disch := omega) only [m_X7_isThere, j_X7_isThere_76, R.r0, e0, rc_ok P.tag, v1, v2, zb0, lm8, lm2, lm1, l0, l1, l2, l3, l4, l5, l6, l7, l8, l9, l10, l11, l12, l13, l14, l15, l16, l17, l18, l19, l20, l21, l22, l23, l24, l25, l27, l31, l32, l40, l46, l48, l50, l57, l59, l63, l86, l96, l97, l100, l110, l114, l122, l127, l200, l255, l300, l319, l320, l340, l441, l456, l580, l600, l800, l886, l1206, l1526, J_add, J_sub, J_mul, J_neg, J_lt, J_le, J_eq, jT, jF, iT, iF, eT, eF, aT, aF, ite_true, ite_false, ite_not, bs]
      rfl
    · rw [decide_eq_true (by omega)]
      simp (disch := omega) only [m_X7_isThere, j_X7_isThere_76, R.r0, e0, rc_ok P.tag, v1, v2, zb1, lm8, lm2, lm1, l0, l1, l2, l3, l4, l5, l6, l7, l8, l9, l10, l11, l12, l13, l14, l15, l16, l17, l18, l19, l20, l21, l22, l23, l24, l25, l27, l31, l32, l40, l46, l48, l50, l57, l59, l63, l86, l96, l97, l100, l110, l114, l122, l127, l200, l255, l300, l319, l320, l340, l441, l456, l580, l600, l800, l886, l1206, l1526, J_add, J_sub, J_mul, J_neg, J_lt, J_le, J_eq, jT, jF, iT, iF, eT, eF, aT, aF, ite_true, ite_false, ite_not, bs]
      rfl
  · have nk3 : nCk k = 3 := by rw [q]; rfl
    have v2 := P.value (j := 2) (by omega) (by omega)
    have n2 := (W.num (j := 2) (by omega) (by omega)).2
    rw [q] at e0
    rw [if_neg (by omega), if_neg (by omega), if_pos (by omega)]
    generalize viF B L f k 1 = a at *
    generalize viF B L f k 2 = b at *
    by_cases c : ln ≤ a
    · rw [decide_eq_false (by omega)]
      simp (disch := omega) only [m_X7_isThere, j_X7_isThere_106, R.r0, e0, rc_ok P.tag, v1, v2, zb0, lm8, lm2, lm1, l0, l1, l2, l3, l4, l5, l6, l7, l8, l9, l10, l11, l12, l13, l14, l15, l16, l17, l18, l19, l20, l21, l22, l23, l24, l25, l27, l31, l32, l40, l46, l48, l50, l57, l59, l63, l86, l96, l97, l100, l110, l114, l122, l127, l200, l255, l300, l319, l320, l340, l441, l456, l580, l600, l800, l886, l1206, l1526, J_add, J_sub, J_mul, J_neg, J_lt, J_le, J_eq, jT, jF, iT, iF, eT, eF, aT, aF, ite_true, ite_false, ite_not, bs]
      rfl
    · by_cases c2 : ln ≤ b
      · rw [decide_eq_false (by omega)]
        simp (disch := omega) only [m_X7_isThere, j_X7_isThere_106, R.r0, e0, rc_ok P.tag, v1, v2, zb0, lm8, lm2, lm1, l0, l1, l2, l3, l4, l5, l6, l7, l8, l9, l10, l11, l12, l13, l14, l15, l16, l17, l18, l19, l20, l21, l22, l23, l24, l25, l27, l31, l32, l40, l46, l48, l50, l57, l59, l63, l86, l96, l97, l100, l110, l114, l122, l127, l200, l255, l300, l319, l320, l340, l441, l456, l580, l600, l800, l886, l1206, l1526, J_add, J_sub, J_mul, J_neg, J_lt, J_le, J_eq, jT, jF, iT, iF, eT, eF, aT, aF, ite_true, ite_false, ite_not, bs]
        rfl
      · rw [decide_eq_true (by omega)]
        simp (disch := omega) only [m_X7_isThere, j_X7_isThere_106, R.r0, e0, rc_ok P.tag, v1, v2, zb1, lm8, lm2, lm1, l0, l1, l2, l3, l4, l5, l6, l7, l8, l9, l10, l11, l12, l13, l14, l15, l16, l17, l18, l19, l20, l21, l22, l23, l24, l25, l27, l31, l32, l40, l46, l48, l50, l57, l59, l63, l86, l96, l97, l100, l110, l114, l122, l127, l200, l255, l300, l319, l320, l340, l441, l456, l580, l600, l800, l886, l1206, l1526, J_add, J_sub, J_mul, J_neg, J_lt, J_le, J_eq, jT, jF, iT, iF, eT, eF, aT, aF, ite_true, ite_false, ite_not, bs]
        rfl
  · rw [q] at e0
    rw [if_neg (by omega), if_neg (by omega), if_neg (by omega)]
    generalize viF B L f k 1 = a at *
    by_cases c : a < T (1 + d)
    · have hv := H.hasVerT (d := d) (v := a) ⟨d0, d1, by omega, c⟩
      rw [decide_eq_true c]
      simp (disch := omega) only [m_X7_isThere, R.r0, R.r1, e0, rc_ok P.tag, rc_ok H.tag, hv, v1, zb1, lm8, lm2, lm1, l0, l1, l2, l3, l4, l5, l6, l7, l8, l9, l10, l11, l12, l13, l14, l15, l16, l17, l18, l19, l20, l21, l22, l23, l24, l25, l27, l31, l32, l40, l46, l48, l50, l57, l59, l63, l86, l96, l97, l100, l110, l114, l122, l127, l200, l255, l300, l319, l320, l340, l441, l456, l580, l600, l800, l886, l1206, l1526, J_add, J_sub, J_mul, J_neg, J_lt, J_le, J_eq, jT, jF, iT, iF, eT, eF, aT, aF, ite_true, ite_false, ite_not, bs]
      rfl
    · have hv := H.hasVerF (d := d) (v := a) (fun q => c q.2.2.2) (by omega) (by omega) (by omega) (by omega)
      rw [decide_eq_false c]
      simp (disch := omega) only [m_X7_isThere, R.r0, R.r1, e0, rc_ok P.tag, rc_ok H.tag, hv, v1, zb0, lm8, lm2, lm1, l0, l1, l2, l3, l4, l5, l6, l7, l8, l9, l10, l11, l12, l13, l14, l15, l16, l17, l18, l19, l20, l21, l22, l23, l24, l25, l27, l31, l32, l40, l46, l48, l50, l57, l59, l63, l86, l96, l97, l100, l110, l114, l122, l127, l200, l255, l300, l319, l320, l340, l441, l456, l580, l600, l800, l886, l1206, l1526, J_add, J_sub, J_mul, J_neg, J_lt, J_le, J_eq, jT, jF, iT, iF, eT, eF, aT, aF, ite_true, ite_false, ite_not, bs]
      rfl
end VE
