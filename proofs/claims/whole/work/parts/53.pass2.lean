/-! PURE PART: passages, the reference's next tokens -/
section Z53
variable {T : Int → Int}
theorem loop_find2 {σ R : Type} {body : (σ → Option R) → σ → Option R} {s : σ} (S : Int → σ) (n : Int) (p : Int → Bool) (F : Int → Option R) (h0 : 0 ≤ n) (hn : n < 4294967296) (h : S 0 = s) (hs : ∀ k i, 0 ≤ i → i < n → p i = false → body k (S i) = k (S (i + 1))) (hr : ∀ k i, 0 ≤ i → i < n → p i = true → (∀ j, 0 ≤ j → j < i → p j = false) → body k (S i) = F i) (he : ∀ k, (∀ i, 0 ≤ i → i < n → p i = false) → body k (S n) = F (-1)) : loopK FUEL body s = F (fiZ n p) := by
  rcases fiZ_spec n p with ⟨e1, e2⟩ | ⟨e1, e2, e3, e4⟩
  · rw [e1]
    exact loop_int S n h0 hn h (fun k i a b => hs k i a b (e2 i a b)) (fun k => he k e2)
  · exact loop_int S (fiZ n p) e1 (by omega) h (fun k i a b => hs k i a (by omega) (e4 i a b)) (fun k => hr k _ e1 e2 e3 e4)
theorem tg_next {T : Int → Int} {d v a b : Int} (hv : vvT T d v) (hi : inV T d v a = true) (h : tgT T d a b = true) : 0 ≤ plT T d v a ∧ plT T d v a + 1 < lnT T d v ∧ rwT T d v (plT T d v a + 1) = b := by
  have h1 := ((tg_iff hv.1 hv.2.1).mp h).2 v hv hi
  rcases plT_cases T d v a with ⟨e1, e2⟩ | ⟨e1, e2, e3, e4⟩
  · rw [hi] at e2
    cases e2
  · rcases plT_cases T d v b with ⟨f1, f2⟩ | ⟨f1, f2, f3, f4⟩
    · omega
    · rw [h1]
      exact ⟨e1, f2, f3⟩
theorem tg_uniq {T : Int → Int} (W : AW T) {d a b c : Int} (ha : tkT T d a) (h1 : tgT T d a b = true) (h2 : tgT T d a c = true) : b = c := by
  have hf := fv_spec W ha
  have e1 := tg_next hf.1 hf.2.1 h1
  have e2 := tg_next hf.1 hf.2.1 h2
  rw [← e1.2.2, ← e2.2.2]
def bhT (T : Int → Int) (d a : Int) : Int := fiZ (T 5) (fun b => decide (owT T b = d) && tgT T d a b)
def haT (T : Int → Int) (d b : Int) : Bool := anyZ (T 5) (fun t => decide (owT T t = d) && tgT T d t b)
/-- what stands behind a token in a version -/
def nxT (T : Int → Int) (d a v : Int) : Int := if plT T d v a + 1 < lnT T d v then rwT T d v (plT T d v a + 1) else -1
theorem bh_T (W : AW T) {d a b : Int} (ha : tkT T d a) (hb : tkT T d b) (h : tgT T d a b = true) : bhT T d a = b := by
  unfold bhT
  refine fiZ_eq hb.1 hb.2.1 (by rw [decide_eq_true hb.2.2, h]; rfl) (fun j h0 h1 => ?_)
  cases hc : (decide (owT T j = d) && tgT T d a j)
  · rfl
  · rw [Bool.and_eq_true, decide_eq_true_eq] at hc
    have := tg_uniq W ha h hc.2
    omega
theorem bh_cases (T : Int → Int) (d a : Int) : (bhT T d a = -1 ∧ ∀ b, tkT T d b → tgT T d a b = false) ∨ (tkT T d (bhT T d a) ∧ tgT T d a (bhT T d a) = true) := by
  unfold bhT
  rcases fiZ_spec (T 5) (fun b => decide (owT T b = d) && tgT T d a b) with ⟨e1, e2⟩ | ⟨e1, e2, e3, e4⟩
  · refine Or.inl ⟨e1, fun b hb => ?_⟩
    have := e2 b hb.1 hb.2.1
    rw [decide_eq_true hb.2.2, Bool.true_and] at this
    exact this
  · rw [Bool.and_eq_true, decide_eq_true_eq] at e3
    exact Or.inr ⟨⟨e1, e2, e3.1⟩, e3.2⟩
section PB
variable {h : Hp} {o : Nat} {T : Int → Int}
theorem RM.behindOf (H : RM h o T) {d a : Int} (ha : tkT T d a) : m_X12_behindOf o (J d) (J a) (J (stT T a : Nat)) h = some (J (bhT T d a)) := by
  have h5 := H.wf.n5
  have h0 := H.wf.n0
  have hd := H.wf.tk ha
  have hn := H.wf.nv hd.1 (by omega)
  have ma := stT_lt H.wf ha.1 ha.2.1
  have a1 := ha.1
  have a2 := ha.2.1
  have hf := fv_spec H.wf ha
  have hfb := H.wf.vb hf.1
  have hnx : ∀ v, vvT T d v → inV T d v a = true → nxT T d a v = -1 ∨ (ppT T d v (plT T d v a + 1) ∧ nxT T d a v = rwT T d v (plT T d v a + 1) ∧ tkT T d (nxT T d a v)) := by
    intro v hv hi
    unfold nxT
    by_cases hc : plT T d v a + 1 < lnT T d v
    · have hg := plT_rg H.wf hv (t := a)
      have hp : ppT T d v (plT T d v a + 1) := ⟨hv, by omega, hc⟩
      rw [if_pos hc]
      exact Or.inr ⟨hp, rfl, H.wf.rwtk hp⟩
    · rw [if_neg hc]
      exact Or.inl rfl
  generalize hcd : nxT T d a (fvT T a) = c at *
  have hcr : -1 ≤ c ∧ c < 319 := by
    rcases hnx _ hf.1 hf.2.1 with e | ⟨_, _, e⟩
    · omega
    · have e1 := e.1
      have e2 := e.2.1
      omega
  have e : bhT T d a = if fiZ (T (1 + d)) (fun v => inV T d v a && (decide (nxT T d a v = -1) || decide (nxT T d a v ≠ c))) = -1 then (if stT T c = stT T a then c else -1) else -1 := by
    rcases bh_cases T d a with ⟨e1, e2⟩ | ⟨e1, e2⟩
    · rw [e1]
      split
      next hz =>
        split
        next hst =>
          rcases fiZ_spec (T (1 + d)) (fun v => inV T d v a && (decide (nxT T d a v = -1) || decide (nxT T d a v ≠ c))) with ⟨f1, f2⟩ | ⟨f1, _⟩
          · have f3 := f2 _ hf.1.2.2.1 hf.1.2.2.2
            rw [hf.2.1, Bool.true_and, Bool.or_eq_false_iff, decide_eq_false_iff_not, hcd] at f3
            rcases hnx _ hf.1 hf.2.1 with g | ⟨_, _, g⟩
            · exact absurd (hcd ▸ g) f3.1
            · rw [hcd] at g
              have g2 := e2 c g
              have g3 : tgT T d a c = true := by
                refine (tg_iff hd.1 hd.2).mpr ⟨hst.symm, fun v hv hi => ?_⟩
                have f4 := f2 v hv.2.2.1 hv.2.2.2
                rw [hi, Bool.true_and, Bool.or_eq_false_iff, decide_eq_false_iff_not, decide_eq_false_iff_not] at f4
                rcases hnx v hv hi with k1 | ⟨k1, k2, _⟩
                · exact absurd k1 f4.1
                · have k3 : rwT T d v (plT T d v a + 1) = c := by
                    rw [← k2]
                    exact Classical.byContradiction f4.2
                  exact ((plT_eq H.wf k1).mpr k3).symm
              rw [g3] at g2
              cases g2
          · omega
        next => rfl
      next => rfl
    · have g0 : ∀ v, vvT T d v → inV T d v a = true → nxT T d a v = bhT T d a := by
        intro v hv hi
        have := tg_next hv hi e2
        unfold nxT
        rw [if_pos this.2.1]
        exact this.2.2
      have g1 : c = bhT T d a := by
        rw [← hcd]
        exact g0 _ hf.1 hf.2.1
      rw [if_pos, if_pos, g1]
      · rw [g1]
        exact ((tg_iff hd.1 hd.2).mp e2).1.symm
      · refine fiZ_none (fun v v0 v1 => ?_)
        have hv : vvT T d v := ⟨hd.1, hd.2, v0, v1⟩
        cases hi : inV T d v a
        · rfl
        · have e10 := e1.1
          rw [g0 v hv hi, g1, decide_eq_false (by omega), decide_eq_false (fun q => q rfl)]
          rfl
  rw [e]
  unfold m_X12_behindOf l_X12_behindOf_6
  refine (loop_find2 (fun i => (J (if fvT T a < i then c else -1), J i)) (T (1 + d)) (fun v => inV T d v a && (decide (nxT T d a v = -1) || decide (nxT T d a v ≠ c))) (fun i => if i = -1 then some (J (if stT T c = stT T a then c else -1)) else some (J (-1))) hn.1 (by omega) (by rw [if_neg (by omega)]; rfl) (fun k i hi hi2 hp => ?_) (fun k i hi hi2 hp hpj => ?_) (fun k hp => ?_)).trans ?_
  · have hv : vvT T d i := ⟨hd.1, hd.2, hi, hi2⟩
    have g1 := plT_rg H.wf hv (t := a)
    have e1 := X12_has_ok (h := h) (v := i) ma hi (by omega)
    rw [bt_stT ha.2.2 hv] at e1
    cases hc : inV T d i a
    · rw [hc] at e1
      have hne : fvT T a ≠ i := fun q => by rw [← q, hf.2.1] at hc; cases hc
      rw [show (if fvT T a < i + 1 then c else -1) = (if fvT T a < i then c else -1) by split <;> split <;> omega]
      generalize (if fvT T a < i then c else -1) = z
      simp (disch := omega) only [b_X12_behindOf_6, j_X12_behindOf_37, j_X12_behindOf_74, j_X12_behindOf_106, j_X12_behindOf_122, rc_ok H.tag, H.versions, e1, lm8, lm2, lm1, l0, l1, l2, l3, l4, l5, l6, l7, l8, l9, l10, l11, l12, l13, l14, l15, l16, l17, l18, l19, l20, l21, l22, l23, l24, l25, l27, l31, l32, l40, l46, l48, l50, l57, l59, l63, l86, l96, l97, l100, l110, l114, l122, l127, l200, l255, l300, l319, l320, l340, l441, l456, l580, l600, l800, l886, l1206, l1526, J_add, J_sub, J_mul, J_neg, J_lt, J_le, J_eq, jT, jF, iT, iF, eT, eF, aT, aF, ite_true, ite_false, ite_not, bs, bI, cond_false]
    · rw [hc] at e1
      rw [hc, Bool.true_and, Bool.or_eq_false_iff, decide_eq_false_iff_not, decide_eq_false_iff_not] at hp
      have hle := hf.2.2 i hv hc
      rcases hnx i hv hc with q1 | ⟨q1, q2, q3⟩
      · exact absurd q1 hp.1
      · have q4 : rwT T d i (plT T d i a + 1) = c := by
          rw [← q2]
          exact Classical.byContradiction hp.2
        have q5 := q1.2.2
        have hpl : 0 ≤ plT T d i a := by
          rcases plT_cases T d i a with ⟨_, r2⟩ | ⟨r1, _⟩
          · rw [hc] at r2
            cases r2
          · exact r1
        have hl := H.wf.ln hv
        have q6 : 0 ≤ c := by
          have := q3.1
          omega
        rw [if_pos (show fvT T a < i + 1 by omega)]
        by_cases hfi : fvT T a < i
        · rw [if_pos hfi]
          simp (disch := omega) only [b_X12_behindOf_6, j_X12_behindOf_37, j_X12_behindOf_74, j_X12_behindOf_106, j_X12_behindOf_122, rc_ok H.tag, H.versions, H.placeOf hv, H.longOf, H.tokenAt, q4, e1, lm8, lm2, lm1, l0, l1, l2, l3, l4, l5, l6, l7, l8, l9, l10, l11, l12, l13, l14, l15, l16, l17, l18, l19, l20, l21, l22, l23, l24, l25, l27, l31, l32, l40, l46, l48, l50, l57, l59, l63, l86, l96, l97, l100, l110, l114, l122, l127, l200, l255, l300, l319, l320, l340, l441, l456, l580, l600, l800, l886, l1206, l1526, J_add, J_sub, J_mul, J_neg, J_lt, J_le, J_eq, jT, jF, iT, iF, eT, eF, aT, aF, ite_true, ite_false, ite_not, bs, bI, cond_true]
        · rw [if_neg hfi]
          simp (disch := omega) only [b_X12_behindOf_6, j_X12_behindOf_37, j_X12_behindOf_74, j_X12_behindOf_106, j_X12_behindOf_122, rc_ok H.tag, H.versions, H.placeOf hv, H.longOf, H.tokenAt, q4, e1, lm8, lm2, lm1, l0, l1, l2, l3, l4, l5, l6, l7, l8, l9, l10, l11, l12, l13, l14, l15, l16, l17, l18, l19, l20, l21, l22, l23, l24, l25, l27, l31, l32, l40, l46, l48, l50, l57, l59, l63, l86, l96, l97, l100, l110, l114, l122, l127, l200, l255, l300, l319, l320, l340, l441, l456, l580, l600, l800, l886, l1206, l1526, J_add, J_sub, J_mul, J_neg, J_lt, J_le, J_eq, jT, jF, iT, iF, eT, eF, aT, aF, ite_true, ite_false, ite_not, bs, bI, cond_true]
  · rw [if_neg (show ¬ i = -1 by omega)]
    have hv : vvT T d i := ⟨hd.1, hd.2, hi, hi2⟩
    have g1 := plT_rg H.wf hv (t := a)
    have e1 := X12_has_ok (h := h) (v := i) ma hi (by omega)
    rw [bt_stT ha.2.2 hv] at e1
    rw [Bool.and_eq_true] at hp
    have hc := hp.1
    rw [hc] at e1
    have hle := hf.2.2 i hv hc
    have hl := H.wf.ln hv
    have hpl : 0 ≤ plT T d i a := by
      rcases plT_cases T d i a with ⟨_, r2⟩ | ⟨r1, _⟩
      · rw [hc] at r2
        cases r2
      · exact r1
    rcases hnx i hv hc with q1 | ⟨q1, q2, q3⟩
    · have q0 : ¬ plT T d i a + 1 < lnT T d i := by
        intro q0
        unfold nxT at q1
        rw [if_pos q0] at q1
        have := H.wf.rw (q := plT T d i a + 1) ⟨hv, by omega, q0⟩
        omega
      generalize (if fvT T a < i then c else -1) = z
      simp (disch := omega) only [b_X12_behindOf_6, j_X12_behindOf_37, j_X12_behindOf_74, rc_ok H.tag, H.versions, H.placeOf hv, H.longOf, e1, lm8, lm2, lm1, l0, l1, l2, l3, l4, l5, l6, l7, l8, l9, l10, l11, l12, l13, l14, l15, l16, l17, l18, l19, l20, l21, l22, l23, l24, l25, l27, l31, l32, l40, l46, l48, l50, l57, l59, l63, l86, l96, l97, l100, l110, l114, l122, l127, l200, l255, l300, l319, l320, l340, l441, l456, l580, l600, l800, l886, l1206, l1526, J_add, J_sub, J_mul, J_neg, J_lt, J_le, J_eq, jT, jF, iT, iF, eT, eF, aT, aF, ite_true, ite_false, ite_not, bs, bI, cond_true]
    · have q5 := q1.2.2
      have q31 := q3.1
      have q32 := q3.2.1
      rw [q2] at q31 q32
      have q7 : rwT T d i (plT T d i a + 1) ≠ c := by
        have := hp.2
        rw [q2, Bool.or_eq_true, decide_eq_true_eq, decide_eq_true_eq] at this
        omega
      have hfi : fvT T a < i := by
        by_cases hx : fvT T a = i
        · rw [hx] at hcd
          exact absurd (q2.symm.trans hcd) q7
        · omega
      have hcne : c ≠ -1 := by
        have f3 := hpj _ hf.1.2.2.1 hfi
        rw [hf.2.1, Bool.true_and, Bool.or_eq_false_iff, decide_eq_false_iff_not, hcd] at f3
        exact f3.1
      rw [if_pos hfi]
      simp (disch := omega) only [b_X12_behindOf_6, j_X12_behindOf_37, j_X12_behindOf_74, rc_ok H.tag, H.versions, H.placeOf hv, H.longOf, H.tokenAt, e1, lm8, lm2, lm1, l0, l1, l2, l3, l4, l5, l6, l7, l8, l9, l10, l11, l12, l13, l14, l15, l16, l17, l18, l19, l20, l21, l22, l23, l24, l25, l27, l31, l32, l40, l46, l48, l50, l57, l59, l63, l86, l96, l97, l100, l110, l114, l122, l127, l200, l255, l300, l319, l320, l340, l441, l456, l580, l600, l800, l886, l1206, l1526, J_add, J_sub, J_mul, J_neg, J_lt, J_le, J_eq, jT, jF, iT, iF, eT, eF, aT, aF, ite_true, ite_false, ite_not, bs, bI, cond_true]
  · rw [if_pos rfl, if_pos (show fvT T a < T (1 + d) from hf.1.2.2.2)]
    have f3 := hp _ hf.1.2.2.1 hf.1.2.2.2
    rw [hf.2.1, Bool.true_and, Bool.or_eq_false_iff, decide_eq_false_iff_not, hcd] at f3
    have g : tkT T d c := by
      rcases hnx _ hf.1 hf.2.1 with g | ⟨_, _, g⟩
      · exact absurd (hcd ▸ g) f3.1
      · rw [hcd] at g
        exact g
    have c0 := g.1
    have c1 := g.2.1
    have mc := stT_lt H.wf g.1 g.2.1
    have ei : (((stT T c : Nat) : Int) = ((stT T a : Nat) : Int)) = (stT T c = stT T a) := propext (by omega)
    by_cases hst : stT T c = stT T a
    · rw [if_pos hst]
      simp (disch := omega) only [b_X12_behindOf_6, j_X12_behindOf_130, j_X12_behindOf_152, rc_ok H.tag, H.versions, H.whereIs, hst, lm8, lm2, lm1, l0, l1, l2, l3, l4, l5, l6, l7, l8, l9, l10, l11, l12, l13, l14, l15, l16, l17, l18, l19, l20, l21, l22, l23, l24, l25, l27, l31, l32, l40, l46, l48, l50, l57, l59, l63, l86, l96, l97, l100, l110, l114, l122, l127, l200, l255, l300, l319, l320, l340, l441, l456, l580, l600, l800, l886, l1206, l1526, J_add, J_sub, J_mul, J_neg, J_lt, J_le, J_eq, jT, jF, iT, iF, eT, eF, aT, aF, ite_true, ite_false, ite_not, bs]
    · rw [if_neg hst]
      simp (disch := omega) only [b_X12_behindOf_6, j_X12_behindOf_130, j_X12_behindOf_152, rc_ok H.tag, H.versions, H.whereIs, lm8, lm2, lm1, l0, l1, l2, l3, l4, l5, l6, l7, l8, l9, l10, l11, l12, l13, l14, l15, l16, l17, l18, l19, l20, l21, l22, l23, l24, l25, l27, l31, l32, l40, l46, l48, l50, l57, l59, l63, l86, l96, l97, l100, l110, l114, l122, l127, l200, l255, l300, l319, l320, l340, l441, l456, l580, l600, l800, l886, l1206, l1526, J_add, J_sub, J_mul, J_neg, J_lt, J_le, J_eq, jT, jF, iT, iF, eT, eF, aT, aF, ite_true, ite_false, ite_not, bs, ei]
      rw [if_neg hst]
  · split <;> rfl
theorem RM.hasAhead (H : RM h o T) {d b : Int} (hb : tkT T d b) : m_X12_hasAhead o (J d) (J b) (J (stT T b : Nat)) h = some (J (b01 (haT T d b))) := by
  have h5 := H.wf.n5
  have h0 := H.wf.n0
  have hd := H.wf.tk hb
  have mb := stT_lt H.wf hb.1 hb.2.1
  have b1 := hb.1
  have b2 := hb.2.1
  unfold haT
  rw [← fiZ_any]
  unfold m_X12_hasAhead l_X12_hasAhead_3
  have step : ∀ (k : Int32 → Option Int32) (i : Int), 0 ≤ i → i < T 5 → b_X12_hasAhead_3 o (J d) (J b) (J (stT T b : Nat)) h (fun q => k q) (J i) = if (decide (owT T i = d) && tgT T d i b) = true then some (J 1) else k (J (i + 1)) := by
    intro k i hi hi2
    have mi := stT_lt H.wf hi hi2
    have ho := H.wf.2.2.2.2.2.2.2 i hi hi2
    by_cases hoi : owT T i = d
    · have hti : tkT T d i := ⟨hi, hi2, hoi⟩
      have hoi2 : T (1206 + i) = d := hoi
      rw [decide_eq_true hoi, Bool.true_and]
      have ei : (((stT T i : Nat) : Int) = ((stT T b : Nat) : Int)) = (stT T i = stT T b) := propext (by omega)
      by_cases hst : stT T i = stT T b
      · have e1 := H.behindOf hti
        rw [hst] at e1
        cases htg : tgT T d i b
        · have hne : bhT T d i ≠ b := by
            rcases bh_cases T d i with ⟨g1, _⟩ | ⟨_, g2⟩
            · omega
            · intro q
              rw [q, htg] at g2
              cases g2
          have hr : -1 ≤ bhT T d i ∧ bhT T d i < 319 := by
            rcases bh_cases T d i with ⟨g1, _⟩ | ⟨g1, _⟩
            · omega
            · have g2 := g1.1
              have g3 := g1.2.1
              omega
          simp (disch := omega) only [b_X12_hasAhead_3, j_X12_hasAhead_51, rc_ok H.tag, H.f24, H.1.r18, H.told, H.whereIs, hoi2, hst, e1, lm8, lm2, lm1, l0, l1, l2, l3, l4, l5, l6, l7, l8, l9, l10, l11, l12, l13, l14, l15, l16, l17, l18, l19, l20, l21, l22, l23, l24, l25, l27, l31, l32, l40, l46, l48, l50, l57, l59, l63, l86, l96, l97, l100, l110, l114, l122, l127, l200, l255, l300, l319, l320, l340, l441, l456, l580, l600, l800, l886, l1206, l1526, J_add, J_sub, J_mul, J_neg, J_lt, J_le, J_eq, jT, jF, iT, iF, eT, eF, aT, aF, ite_true, ite_false, ite_not, bs]
          rfl
        · have he := bh_T H.wf hti hb htg
          rw [he] at e1
          simp (disch := omega) only [b_X12_hasAhead_3, j_X12_hasAhead_51, rc_ok H.tag, H.f24, H.1.r18, H.told, H.whereIs, hoi2, hst, e1, lm8, lm2, lm1, l0, l1, l2, l3, l4, l5, l6, l7, l8, l9, l10, l11, l12, l13, l14, l15, l16, l17, l18, l19, l20, l21, l22, l23, l24, l25, l27, l31, l32, l40, l46, l48, l50, l57, l59, l63, l86, l96, l97, l100, l110, l114, l122, l127, l200, l255, l300, l319, l320, l340, l441, l456, l580, l600, l800, l886, l1206, l1526, J_add, J_sub, J_mul, J_neg, J_lt, J_le, J_eq, jT, jF, iT, iF, eT, eF, aT, aF, ite_true, ite_false, ite_not, bs]
      · have htg : tgT T d i b = false := by
          cases htg : tgT T d i b
          · rfl
          · exact absurd ((tg_iff hd.1 hd.2).mp htg).1 hst
        rw [htg]
        simp (disch := omega) only [b_X12_hasAhead_3, j_X12_hasAhead_51, rc_ok H.tag, H.f24, H.1.r18, H.told, H.whereIs, hoi2, lm8, lm2, lm1, l0, l1, l2, l3, l4, l5, l6, l7, l8, l9, l10, l11, l12, l13, l14, l15, l16, l17, l18, l19, l20, l21, l22, l23, l24, l25, l27, l31, l32, l40, l46, l48, l50, l57, l59, l63, l86, l96, l97, l100, l110, l114, l122, l127, l200, l255, l300, l319, l320, l340, l441, l456, l580, l600, l800, l886, l1206, l1526, J_add, J_sub, J_mul, J_neg, J_lt, J_le, J_eq, jT, jF, iT, iF, eT, eF, aT, aF, ite_true, ite_false, ite_not, bs, ei]
        rw [if_neg hst]
        rfl
    · rw [decide_eq_false hoi, Bool.false_and]
      have hd2 : T (1206 + i) < d ∨ d < T (1206 + i) := by unfold owT at hoi; omega
      have hr : -2147483648 ≤ T (1206 + i) ∧ T (1206 + i) < 2147483648 := by unfold owT at ho; omega
      simp (disch := first | omega | exact hd2) only [b_X12_hasAhead_3, j_X12_hasAhead_51, rc_ok H.tag, H.f24, H.1.r18, H.told, lm8, lm2, lm1, l0, l1, l2, l3, l4, l5, l6, l7, l8, l9, l10, l11, l12, l13, l14, l15, l16, l17, l18, l19, l20, l21, l22, l23, l24, l25, l27, l31, l32, l40, l46, l48, l50, l57, l59, l63, l86, l96, l97, l100, l110, l114, l122, l127, l200, l255, l300, l319, l320, l340, l441, l456, l580, l600, l800, l886, l1206, l1526, J_add, J_sub, J_mul, J_neg, J_lt, J_le, J_eq, jT, jF, iT, iF, eT, eF, aT, aF, ite_true, ite_false, ite_not, bs]
      rfl
  refine loop_find (fun i => J i) (T 5) (fun t => decide (owT T t = d) && tgT T d t b) (fun i => some (J (b01 (decide (0 ≤ i))))) h5.1 (by omega) rfl (fun k i hi hi2 hp => ?_) (fun k i hi hi2 hp => ?_) (fun k => ?_)
  · refine (step k i hi hi2).trans ?_
    rw [if_neg (by rw [hp]; decide)]
  · refine (step k i hi hi2).trans ?_
    rw [if_pos hp, decide_eq_true hi]
    rfl
  · simp (disch := omega) only [b_X12_hasAhead_3, H.f24, lm8, lm2, lm1, l0, l1, l2, l3, l4, l5, l6, l7, l8, l9, l10, l11, l12, l13, l14, l15, l16, l17, l18, l19, l20, l21, l22, l23, l24, l25, l27, l31, l32, l40, l46, l48, l50, l57, l59, l63, l86, l96, l97, l100, l110, l114, l122, l127, l200, l255, l300, l319, l320, l340, l441, l456, l580, l600, l800, l886, l1206, l1526, J_add, J_sub, J_mul, J_neg, J_lt, J_le, J_eq, jT, jF, iT, iF, eT, eF, aT, aF, ite_true, ite_false, ite_not, bs]
    rfl
end PB
end Z53
