/-! PURE PART: passages, the reference -/
section Z54
variable {T : Int → Int}
/-- how long the row of tokens is that go behind one another from a place on -/
def rlT (T : Int → Int) (d v q : Int) : Int := if fiZ (lnT T d v - q - 1) (fun j => !glT T d v (q + 1 + j)) = -1 then lnT T d v - q else fiZ (lnT T d v - q - 1) (fun j => !glT T d v (q + 1 + j)) + 1
theorem rl_spec (T : Int → Int) (d v q : Int) (hq : q < lnT T d v) : 1 ≤ rlT T d v q ∧ q + rlT T d v q ≤ lnT T d v ∧ (∀ j, 1 ≤ j → j < rlT T d v q → glT T d v (q + j) = true) ∧ (q + rlT T d v q = lnT T d v ∨ glT T d v (q + rlT T d v q) = false) := by
  unfold rlT
  rcases fiZ_spec (lnT T d v - q - 1) (fun j => !glT T d v (q + 1 + j)) with ⟨e1, e2⟩ | ⟨e1, e2, e3, e4⟩
  · rw [if_pos e1]
    refine ⟨by omega, by omega, fun j j0 j1 => ?_, Or.inl (by omega)⟩
    have := e2 (j - 1) (by omega) (by omega)
    rw [show q + 1 + (j - 1) = q + j by omega] at this
    simpa using this
  · rw [if_neg (by omega)]
    refine ⟨by omega, by omega, fun j j0 j1 => ?_, Or.inr ?_⟩
    · have := e4 (j - 1) (by omega) (by omega)
      rw [show q + 1 + (j - 1) = q + j by omega] at this
      simpa using this
    · rw [show q + (fiZ (lnT T d v - q - 1) (fun j => !glT T d v (q + 1 + j)) + 1) = q + 1 + fiZ (lnT T d v - q - 1) (fun j => !glT T d v (q + 1 + j)) by omega]
      simpa using e3
/-- sums over first places are sums over tokens -/
theorem sum_first {T : Int → Int} (W : AW T) {d : Int} (hd : 0 ≤ d) (hd2 : d < T 0) (g : Int → Int) : sumZ (T (1 + d)) (fun v => sumZ (lnT T d v) (fun q => if fsB T d v q = true then g (rwT T d v q) else 0)) = sumZ (T 5) (fun t => if owT T t = d then g t else 0) := by
  have e1 : sumZ (T (1 + d)) (fun v => sumZ (lnT T d v) (fun q => if fsB T d v q = true then g (rwT T d v q) else 0)) = sumZ (T (1 + d)) (fun v => sumZ (lnT T d v) (fun q => sumZ (T 5) (fun t => if rwT T d v q = t ∧ fvT T t = v then g t else 0))) := by
    refine sumZ_congr (fun v v0 v1 => sumZ_congr (fun q q0 q1 => ?_))
    have hp : ppT T d v q := ⟨⟨hd, hd2, v0, v1⟩, q0, q1⟩
    have hr := W.rw hp
    rw [sumZ_point (a := rwT T d v q) hr.1 hr.2.1 (fun t _ _ ht => if_neg (fun z => ht z.1.symm))]
    unfold fsB
    by_cases hc : fvT T (rwT T d v q) = v
    · rw [if_pos (decide_eq_true hc), if_pos ⟨rfl, hc⟩]
    · rw [if_neg (by rw [decide_eq_false hc]; decide), if_neg (fun z => hc z.2)]
  rw [e1]
  have e2 : sumZ (T (1 + d)) (fun v => sumZ (lnT T d v) (fun q => sumZ (T 5) (fun t => if rwT T d v q = t ∧ fvT T t = v then g t else 0))) = sumZ (T 5) (fun t => sumZ (T (1 + d)) (fun v => sumZ (lnT T d v) (fun q => if rwT T d v q = t ∧ fvT T t = v then g t else 0))) := by
    rw [← sumZ_swap]
    exact sumZ_congr (fun v _ _ => sumZ_swap)
  rw [e2]
  refine sumZ_congr (fun t t0 t1 => ?_)
  by_cases ho : owT T t = d
  · rw [if_pos ho]
    have hf := fv_spec W ⟨t0, t1, ho⟩
    have hpl : 0 ≤ plT T d (fvT T t) t ∧ plT T d (fvT T t) t < lnT T d (fvT T t) ∧ rwT T d (fvT T t) (plT T d (fvT T t) t) = t := by
      rcases plT_cases T d (fvT T t) t with ⟨_, r2⟩ | ⟨r1, r2, r3, _⟩
      · rw [hf.2.1] at r2
        cases r2
      · exact ⟨r1, r2, r3⟩
    rw [sumZ_point (a := fvT T t) hf.1.2.2.1 hf.1.2.2.2 (fun v _ _ hv => sumZ_zero (fun q _ _ => if_neg (fun z => hv z.2.symm)))]
    rw [sumZ_point (a := plT T d (fvT T t) t) hpl.1 hpl.2.1 (fun q q0 q1 hq => if_neg (fun z => hq (((plT_eq W ⟨hf.1, q0, q1⟩).mpr z.1).symm)))]
    exact if_pos ⟨hpl.2.2, rfl⟩
  · rw [if_neg ho]
    refine sumZ_zero (fun v v0 v1 => sumZ_zero (fun q q0 q1 => if_neg (fun z => ho ?_)))
    have := (W.rw (d := d) (v := v) (q := q) ⟨⟨hd, hd2, v0, v1⟩, q0, q1⟩).2.2
    rw [← z.1]
    exact this
theorem go_ha {T : Int → Int} (W : AW T) {d v q : Int} (hp : ppT T d v q) (hf : fsB T d v q = true) : goB T d v q = haT T d (rwT T d v q) := by
  have hfe : fvT T (rwT T d v q) = v := by
    unfold fsB at hf
    simpa using hf
  unfold haT
  cases hg : goB T d v q
  · refine (anyZ_F.mpr (fun t t0 t1 => ?_)).symm
    cases hc : (decide (owT T t = d) && tgT T d t (rwT T d v q))
    · rfl
    · rw [Bool.and_eq_true, decide_eq_true_eq] at hc
      have ht : tkT T d t := ⟨t0, t1, hc.1⟩
      have hs := fv_spec W ht
      have hst := ((tg_iff hp.1.1 hp.1.2.1).mp hc.2).1
      have hfv : fvT T t = v := by
        rw [← hfe]
        unfold fvT
        rw [hst]
      rw [hfv] at hs
      have hn := tg_next hs.1 hs.2.1 hc.2
      have hq : plT T d v t + 1 = q := W.2.2.2.2.2.2.1 d v _ _ ⟨hp.1, by omega, hn.2.1⟩ hp hn.2.2
      have hr : rwT T d v (q - 1) = t := by
        rcases plT_cases T d v t with ⟨_, r2⟩ | ⟨_, _, r3, _⟩
        · rw [hs.2.1] at r2
          cases r2
        · rw [← hq, show plT T d v t + 1 - 1 = plT T d v t by omega]
          exact r3
      unfold goB glT at hg
      rw [decide_eq_true (by omega), hr, hc.2] at hg
      cases hg
  · unfold goB at hg
    rw [Bool.and_eq_true, decide_eq_true_eq] at hg
    have hq : ppT T d v (q - 1) := ⟨hp.1, by omega, by have := hp.2; omega⟩
    have hr := W.rw hq
    refine (anyZ_iff.mpr ⟨rwT T d v (q - 1), hr.1, hr.2.1, ?_⟩).symm
    rw [decide_eq_true hr.2.2, Bool.true_and]
    exact hg.2
theorem paN_eq {T : Int → Int} (W : AW T) {d : Int} (hd : 0 ≤ d) (hd2 : d < T 0) : paN T d = sumZ (T 5) (fun t => b01 (decide (owT T t = d) && !haT T d t)) := by
  have e := sum_first W hd hd2 (fun t => b01 (!haT T d t))
  unfold paN
  refine Eq.trans (sumZ_congr (fun v v0 v1 => sumZ_congr (fun q q0 q1 => ?_))) (e.trans (sumZ_congr (fun t _ _ => ?_)))
  · have hp : ppT T d v q := ⟨⟨hd, hd2, v0, v1⟩, q0, q1⟩
    cases hf : fsB T d v q
    · rw [if_neg (by decide)]
      rfl
    · rw [if_pos rfl, go_ha W hp hf, Bool.true_and]
  · by_cases ho : owT T t = d
    · rw [if_pos ho, decide_eq_true ho, Bool.true_and]
    · rw [if_neg ho, decide_eq_false ho]
      rfl
theorem LZ_head {T : Int → Int} (d v : Int) : ∀ q : Nat, ∃ s : Int, 0 ≤ s ∧ s ≤ q ∧ LN T d v q = q - s + 1 ∧ (∀ j, s < j → j ≤ q → glT T d v j = true) ∧ (s = 0 ∨ glT T d v s = false) := by
  intro q
  induction q with
  | zero => exact ⟨0, by omega, by omega, rfl, fun j h1 h2 => by omega, Or.inl rfl⟩
  | succ q ih =>
    cases hg : glT T d v ((q : Int) + 1)
    · refine ⟨q + 1, by omega, by omega, ?_, fun j h1 h2 => by omega, Or.inr hg⟩
      show (if glT T d v ((q : Int) + 1) = true then LN T d v q + 1 else 1) = _
      rw [hg, if_neg (by decide)]
      omega
    · obtain ⟨s, h0, h1, h2, h3, h4⟩ := ih
      refine ⟨s, h0, by omega, ?_, fun j j1 j2 => ?_, h4⟩
      · show (if glT T d v ((q : Int) + 1) = true then LN T d v q + 1 else 1) = _
        rw [hg, if_pos rfl, h2]
        omega
      · by_cases hj : j = q + 1
        · rw [hj]
          exact hg
        · exact h3 j j1 (by omega)
def roT (T : Int → Int) (d t : Int) : Int := rlT T d (fvT T t) (plT T d (fvT T t) t)
theorem fs_chain {T : Int → Int} {d v s : Int} (hd : 0 ≤ d) (hd2 : d < T 0) : ∀ n : Nat, (∀ j, s < j → j ≤ s + n → glT T d v j = true) → fsB T d v (s + n) = fsB T d v s ∧ stT T (rwT T d v (s + n)) = stT T (rwT T d v s) := by
  intro n
  induction n with
  | zero => intro _; rw [show s + ((0 : Nat) : Int) = s by omega]; exact ⟨rfl, rfl⟩
  | succ n ih =>
    intro h
    have h1 := h (s + (n + 1 : Nat)) (by omega) (by omega)
    have h2 := ih (fun j a b => h j a (by omega))
    have h3 := gl_fs hd hd2 h1
    have h4 := ((tg_iff hd hd2).mp h1).1
    rw [show s + ((n + 1 : Nat) : Int) - 1 = s + (n : Int) by omega] at h3 h4
    exact ⟨h3.trans h2.1, h4.symm.trans h2.2⟩
theorem LZ_grow {T : Int → Int} {d v p : Int} (hp : 0 ≤ p) : ∀ n : Nat, (∀ j : Int, 1 ≤ j → j ≤ n → glT T d v (p + j) = true) → (n : Int) + 1 ≤ LZ T d v (p + n) := by
  intro n
  induction n with
  | zero =>
    intro _
    have := LZ_rg (T := T) (d := d) (v := v) hp
    rw [show p + ((0 : Nat) : Int) = p by omega]
    omega
  | succ n ih =>
    intro h
    have h1 := h (n + 1) (by omega) (by omega)
    have h2 := ih (fun j a b => h j a (by omega))
    rw [show p + ((n + 1 : Nat) : Int) = p + (n : Int) + 1 by omega, LZ_succ (by omega), if_pos (by rw [show p + (n : Int) + 1 = p + ((n : Int) + 1) by omega]; exact h1)]
    omega
theorem paM_eq {T : Int → Int} (W : AW T) {d : Int} (hd : 0 ≤ d) (hd2 : d < T 0) : paM T d = mxZ (T 5) (fun t => if (decide (owT T t = d) && !haT T d t) = true then roT T d t else 0) := by
  refine Int.le_antisymm ?_ ?_
  · unfold paM
    refine mxZ_le mxZ_nn (fun v v0 v1 => mxZ_le mxZ_nn (fun q q0 q1 => ?_))
    split
    next hf =>
      have hv : vvT T d v := ⟨hd, hd2, v0, v1⟩
      obtain ⟨s, h0, h1, h2, h3, h4⟩ := LZ_head (T := T) d v q.toNat
      have hq : ((q.toNat : Nat) : Int) = q := Int.toNat_of_nonneg q0
      rw [hq] at h1 h2 h3
      have hs : ppT T d v s := ⟨hv, h0, by omega⟩
      have hc := (fs_chain (v := v) (s := s) hd hd2 (q - s).toNat (fun j a b => h3 j a (by omega))).1
      rw [show s + (((q - s).toNat : Nat) : Int) = q by omega, hf] at hc
      have hg := go_ha W hs hc.symm
      have hgo : goB T d v s = false := by
        unfold goB
        rcases h4 with h4 | h4
        · rw [decide_eq_false (by omega)]
          rfl
        · rw [h4, Bool.and_false]
      rw [hgo] at hg
      have hr := W.rw hs
      have hfe : fvT T (rwT T d v s) = v := by
        have := hc.symm
        unfold fsB at this
        simpa using this
      have hro : roT T d (rwT T d v s) = rlT T d v s := by
        unfold roT
        rw [hfe, (plT_eq W hs).mpr rfl]
      have hl := rl_spec T d v s hs.2.2
      refine Int.le_trans ?_ (mxZ_ge (f := fun t => if (decide (owT T t = d) && !haT T d t) = true then roT T d t else 0) hr.1 hr.2.1)
      rw [decide_eq_true hr.2.2, ← hg, if_pos (show (true && !false) = true from rfl), hro]
      have hL : LZ T d v q = q - s + 1 := h2
      rw [hL]
      by_cases hlt : rlT T d v s ≤ q - s
      · rcases hl.2.2.2 with e | e
        · omega
        · have := h3 (s + rlT T d v s) (by omega) (by omega)
          rw [e] at this
          cases this
      · omega
    next => exact mxZ_nn
  · refine mxZ_le mxZ_nn (fun t t0 t1 => ?_)
    split
    next hc =>
      rw [Bool.and_eq_true, decide_eq_true_eq] at hc
      have hf := fv_spec W ⟨t0, t1, hc.1⟩
      have hpl : 0 ≤ plT T d (fvT T t) t ∧ plT T d (fvT T t) t < lnT T d (fvT T t) ∧ rwT T d (fvT T t) (plT T d (fvT T t) t) = t := by
        rcases plT_cases T d (fvT T t) t with ⟨_, r2⟩ | ⟨r1, r2, r3, _⟩
        · rw [hf.2.1] at r2
          cases r2
        · exact ⟨r1, r2, r3⟩
      unfold roT
      have hl := rl_spec T d (fvT T t) (plT T d (fvT T t) t) hpl.2.1
      generalize hv : fvT T t = v at *
      generalize hp : plT T d v t = p at *
      generalize hr : rlT T d v p = r at *
      have hfs : fsB T d v p = true := by
        unfold fsB
        rw [hpl.2.2, hv]
        exact decide_eq_true rfl
      have hch := (fs_chain (v := v) (s := p) hd hd2 (r - 1).toNat (fun j a b => by have := hl.2.2.1 (j - p) (by omega) (by omega); rw [show p + (j - p) = j by omega] at this; exact this)).1
      have hgr := LZ_grow (d := d) (v := v) hpl.1 (r - 1).toNat (fun j a b => hl.2.2.1 j a (by omega))
      rw [show p + (((r - 1).toNat : Nat) : Int) = p + (r - 1) by omega] at hch hgr
      refine Int.le_trans ?_ (mxZ_ge (f := fun v => mxZ (lnT T d v) (fun q => if fsB T d v q = true then LZ T d v q else 0)) hf.1.2.2.1 hf.1.2.2.2)
      refine Int.le_trans ?_ (mxZ_ge (i := p + (r - 1)) (f := fun q => if fsB T d v q = true then LZ T d v q else 0) (by omega) (by omega))
      rw [hch, if_pos hfs]
      omega
    next => exact mxZ_nn
section PC
variable {h : Hp} {o : Nat} {T : Int → Int}
theorem RM.chain (H : RM h o T) {d t : Int} (ht : tkT T d t) (K : Int32 → Option Int32) (a1 a2 a3 a4 : Int32) : l_X12_passages_71 o (J d) a1 a2 a3 a4 (J (stT T t : Nat)) h K (J 0) (J t) = K (J (roT T d t)) := by
  have h5 := H.wf.n5
  have hf := fv_spec H.wf ht
  have hpl : 0 ≤ plT T d (fvT T t) t ∧ plT T d (fvT T t) t < lnT T d (fvT T t) ∧ rwT T d (fvT T t) (plT T d (fvT T t) t) = t := by
    rcases plT_cases T d (fvT T t) t with ⟨_, r2⟩ | ⟨r1, r2, r3, _⟩
    · rw [hf.2.1] at r2
      cases r2
    · exact ⟨r1, r2, r3⟩
  unfold roT
  have hl := rl_spec T d (fvT T t) (plT T d (fvT T t) t) hpl.2.1
  generalize hv : fvT T t = v at *
  generalize hp : plT T d v t = p at *
  generalize hr : rlT T d v p = r at *
  have hln := H.wf.ln hf.1
  unfold l_X12_passages_71
  refine loop_int (fun j => (J j, J (if j < r then rwT T d v (p + j) else -1))) r (by omega) (by omega) (by rw [if_pos (by omega), show p + 0 = p by omega, hpl.2.2]) (fun k j j0 j1 => ?_) (fun k => ?_)
  · have hpp : ppT T d v (p + j) := ⟨hf.1, by omega, by omega⟩
    have hrw := H.wf.rw hpp
    have hch := (fs_chain (v := v) (s := p) hf.1.1 hf.1.2.1 j.toNat (fun i a b => by have := hl.2.2.1 (i - p) (by omega) (by omega); rw [show p + (i - p) = i by omega] at this; exact this)).2
    rw [show p + ((j.toNat : Nat) : Int) = p + j by omega, hpl.2.2] at hch
    have e1 := H.behindOf (H.wf.rwtk hpp)
    rw [hch] at e1
    have e2 : bhT T d (rwT T d v (p + j)) = if j + 1 < r then rwT T d v (p + (j + 1)) else -1 := by
      by_cases hj : j + 1 < r
      · rw [if_pos hj]
        have hpn : ppT T d v (p + (j + 1)) := ⟨hf.1, by omega, by omega⟩
        refine bh_T H.wf (H.wf.rwtk hpp) (H.wf.rwtk hpn) ?_
        have := hl.2.2.1 (j + 1) (by omega) hj
        unfold glT at this
        rw [show p + (j + 1) - 1 = p + j by omega] at this
        exact this
      · rw [if_neg hj]
        rcases bh_cases T d (rwT T d v (p + j)) with ⟨e, _⟩ | ⟨g1, g2⟩
        · exact e
        · have hnx := tg_next hf.1 (inV_at hpp) g2
          rw [(plT_eq H.wf hpp).mpr rfl] at hnx
          rcases hl.2.2.2 with e | e
          · omega
          · unfold glT at e
            rw [show p + r - 1 = p + j by omega, show p + r = p + j + 1 by omega, hnx.2.2, g2] at e
            cases e
    rw [if_pos j1]
    have e3 : (J j + J 1) = J (j + 1) := J_add j 1
    show b_X12_passages_71 o (J d) a1 a2 a3 a4 (J (stT T t : Nat)) h K _ (J j) (J (rwT T d v (p + j))) = _
    simp (disch := omega) only [b_X12_passages_71, rc_ok H.tag, e1, e2, lm8, lm2, lm1, l0, l1, l2, l3, l4, l5, l6, l7, l8, l9, l10, l11, l12, l13, l14, l15, l16, l17, l18, l19, l20, l21, l22, l23, l24, l25, l27, l31, l32, l40, l46, l48, l50, l57, l59, l63, l86, l96, l97, l100, l110, l114, l122, l127, l200, l255, l300, l319, l320, l340, l441, l456, l580, l600, l800, l886, l1206, l1526, J_add, J_sub, J_mul, J_neg, J_lt, J_le, J_eq, jT, jF, iT, iF, eT, eF, aT, aF, ite_true, ite_false, ite_not, bs]
  · rw [if_neg (by omega)]
    show b_X12_passages_71 o (J d) a1 a2 a3 a4 (J (stT T t : Nat)) h K _ (J r) (J (-1)) = _
    simp (disch := omega) only [b_X12_passages_71, lm8, lm2, lm1, l0, l1, l2, l3, l4, l5, l6, l7, l8, l9, l10, l11, l12, l13, l14, l15, l16, l17, l18, l19, l20, l21, l22, l23, l24, l25, l27, l31, l32, l40, l46, l48, l50, l57, l59, l63, l86, l96, l97, l100, l110, l114, l122, l127, l200, l255, l300, l319, l320, l340, l441, l456, l580, l600, l800, l886, l1206, l1526, J_add, J_sub, J_mul, J_neg, J_lt, J_le, J_eq, jT, jF, iT, iF, eT, eF, aT, aF, ite_true, ite_false, ite_not, bs]
theorem roT_rg (W : AW T) {d t : Int} (ht : tkT T d t) : 0 ≤ roT T d t ∧ roT T d t ≤ 20 := by
  have hf := fv_spec W ht
  have hl := W.ln hf.1
  have hpl : 0 ≤ plT T d (fvT T t) t ∧ plT T d (fvT T t) t < lnT T d (fvT T t) := by
    rcases plT_cases T d (fvT T t) t with ⟨_, r2⟩ | ⟨r1, r2, r3, _⟩
    · rw [hf.2.1] at r2
      cases r2
    · exact ⟨r1, r2⟩
  have := rl_spec T d (fvT T t) (plT T d (fvT T t) t) hpl.2
  unfold roT
  omega
theorem st_pos (W : AW T) {d t : Int} (ht : tkT T d t) : 0 < stT T t := by
  have hf := fv_spec W ht
  have e := bt_stT ht.2.2 hf.1
  rw [hf.2.1] at e
  by_cases h0 : stT T t = 0
  · rw [h0] at e
    unfold bt at e
    rw [Nat.zero_testBit, Bool.and_false] at e
    cases e
  · omega
theorem RM.passages (H : RM h o T) {d : Int} (hd : 0 ≤ d) (hd2 : d < T 0) {b : Bool} : m_X12_passages o (J d) (J (b01 b)) h = some (J (bif b then paM T d else paN T d)) := by
  have h0 := H.wf.n0
  have h5 := H.wf.n5
  rw [paM_eq H.wf hd hd2, paN_eq H.wf hd hd2]
  have hM : ∀ i, i ≤ T 5 → mxZ i (fun t => if (decide (owT T t = d) && !haT T d t) = true then roT T d t else 0) ≤ 20 := by
    intro i hi
    refine mxZ_le (by omega) (fun t t0 t1 => ?_)
    split
    next hc =>
      rw [Bool.and_eq_true, decide_eq_true_eq] at hc
      exact (roT_rg H.wf ⟨t0, by omega, hc.1⟩).2
    next => omega
  unfold m_X12_passages l_X12_passages_8
  refine loop_int (fun i => (J (sumZ i (fun t => b01 (decide (owT T t = d) && !haT T d t))), J (mxZ i (fun t => if (decide (owT T t = d) && !haT T d t) = true then roT T d t else 0)), J i)) (T 5) h5.1 (by omega) rfl (fun k i hi hi2 => ?_) (fun k => ?_)
  · have ho := H.wf.2.2.2.2.2.2.2 i hi hi2
    have hM1 := hM i (by omega)
    have hM0 : 0 ≤ mxZ i (fun t => if (decide (owT T t = d) && !haT T d t) = true then roT T d t else 0) := mxZ_nn
    rw [sumZ_succ hi, mxZ_succ hi]
    generalize mxZ i (fun t => if (decide (owT T t = d) && !haT T d t) = true then roT T d t else 0) = M at hM0 hM1
    by_cases hoi : owT T i = d
    · have hti : tkT T d i := ⟨hi, hi2, hoi⟩
      have hoi2 : T (1206 + i) = d := hoi
      have hm := stT_lt H.wf hi hi2
      have hpos := st_pos H.wf hti
      have hro := roT_rg H.wf hti
      rw [decide_eq_true hoi, Bool.true_and]
      have e1 := H.hasAhead hti
      cases hha : haT T d i
      · rw [hha] at e1
        have e2 := fun K a1 a2 a3 a4 => H.chain hti K a1 a2 a3 a4
        rw [if_pos (show (!false) = true from rfl)]
        simp (disch := omega) only [b_X12_passages_8, j_X12_passages_42, j_X12_passages_94, j_X12_passages_103, rc_ok H.tag, H.f24, H.1.r18, H.told, H.whereIs, hoi2, e1, e2, X12_greater_ok, bN, bI, lm8, lm2, lm1, l0, l1, l2, l3, l4, l5, l6, l7, l8, l9, l10, l11, l12, l13, l14, l15, l16, l17, l18, l19, l20, l21, l22, l23, l24, l25, l27, l31, l32, l40, l46, l48, l50, l57, l59, l63, l86, l96, l97, l100, l110, l114, l122, l127, l200, l255, l300, l319, l320, l340, l441, l456, l580, l600, l800, l886, l1206, l1526, J_add, J_sub, J_mul, J_neg, J_lt, J_le, J_eq, jT, jF, iT, iF, eT, eF, aT, aF, ite_true, ite_false, ite_not, bs, cond_false]
        rfl
      · rw [hha] at e1
        rw [if_neg (by decide), show max M 0 = M by omega]
        simp (disch := omega) only [b_X12_passages_8, j_X12_passages_42, j_X12_passages_103, rc_ok H.tag, H.f24, H.1.r18, H.told, H.whereIs, hoi2, e1, bN, bI, lm8, lm2, lm1, l0, l1, l2, l3, l4, l5, l6, l7, l8, l9, l10, l11, l12, l13, l14, l15, l16, l17, l18, l19, l20, l21, l22, l23, l24, l25, l27, l31, l32, l40, l46, l48, l50, l57, l59, l63, l86, l96, l97, l100, l110, l114, l122, l127, l200, l255, l300, l319, l320, l340, l441, l456, l580, l600, l800, l886, l1206, l1526, J_add, J_sub, J_mul, J_neg, J_lt, J_le, J_eq, jT, jF, iT, iF, eT, eF, aT, aF, ite_true, ite_false, ite_not, bs, cond_true]
        simp [b01]
    · have hd3 : T (1206 + i) < d ∨ d < T (1206 + i) := by unfold owT at hoi; omega
      have hr : -2147483648 ≤ T (1206 + i) ∧ T (1206 + i) < 2147483648 := by unfold owT at ho; omega
      rw [decide_eq_false hoi, Bool.false_and, if_neg (by decide), show max M 0 = M by omega]
      simp (disch := first | omega | exact hd3) only [b_X12_passages_8, j_X12_passages_42, j_X12_passages_103, rc_ok H.tag, H.f24, H.1.r18, H.told, lm8, lm2, lm1, l0, l1, l2, l3, l4, l5, l6, l7, l8, l9, l10, l11, l12, l13, l14, l15, l16, l17, l18, l19, l20, l21, l22, l23, l24, l25, l27, l31, l32, l40, l46, l48, l50, l57, l59, l63, l86, l96, l97, l100, l110, l114, l122, l127, l200, l255, l300, l319, l320, l340, l441, l456, l580, l600, l800, l886, l1206, l1526, J_add, J_sub, J_mul, J_neg, J_lt, J_le, J_eq, jT, jF, iT, iF, eT, eF, aT, aF, ite_true, ite_false, ite_not, bs]
      simp [b01]
  · simp (disch := omega) only [b_X12_passages_8, H.f24, J_le, iT, bs]
    unfold j_X12_passages_109 j_X12_passages_119
    rw [l0, bI]
    cases b <;> rfl
end PC
end Z54
