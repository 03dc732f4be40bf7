/-! PURE PART: what follows from where questions hold, both sides -/
/-- sets of documents, as bits -/
theorem set_or {n : Int} {f : Int → Bool} (h0 : 0 ≤ n) (h1 : n < 10) : (bif f n then J (setN n.toNat f : Nat) ||| ishlF (J 1) (J n) else J (setN n.toNat f : Nat)) = J (setN (n + 1).toNat f : Nat) := by
  have hn : ((n.toNat : Nat) : Int) = n := Int.toNat_of_nonneg h0
  rw [show (n + 1).toNat = n.toNat + 1 by omega]
  cases hh : f n
  · rw [cond_false, setN_F (by rw [hn]; exact hh)]
  · rw [cond_true]
    have := setN_T (i := n.toNat) (f := f) (by omega) (by rw [hn]; exact hh)
    rw [hn] at this
    exact this
theorem shl0 {x : Int32} : ishlF (J 0) x = J 0 := by
  show (J 0) <<< (x &&& 31) = J 0
  exact Int32.zero_shiftLeft
def vhT (T Q : Int → Int) (k : Int) : Int := sumZ (T 0) (fun d => onN (HE T Q k d))
def evT (T Q : Int → Int) (k : Int) : Nat := setN (T 0).toNat (fun d => decide (HE T Q k d ≠ 0))
def alwT (T Q : Int → Int) (k : Int) : Nat := setN (T 0).toNat (fun d => decide (HE T Q k d = 2 ^ (T (1 + d)).toNat - 1))
def ltT (T : Int → Int) (d t : Int) : Int := laZ (T (1 + d)) (fun v => decide (dtT T d v ≤ t))
def aoT (T Q : Int → Int) (k t : Int) : Nat := setN (T 0).toNat (fun d => bt (HE T Q k d) (ltT T d t))
def chB (T Q : Int → Int) (k t : Int) : Bool := decide (aoT T Q k t ≠ aoT T Q k (t - 1))
def chT (T Q : Int → Int) (k : Int) : Int := sumZ (nvT T) (fun t => b01 (chB T Q k t))
def caT (T Q : Int → Int) (k i : Int) : Int := fiZ (nvT T) (fun t => chB T Q k t && decide (sumZ t (fun t => b01 (chB T Q k t)) = i))
def laB (T Q : Int → Int) (k d : Int) : Int := b01 (bt (HE T Q k d) (T (1 + d) - 1))
def rfT (T Q : Int → Int) (k d : Int) : Int := 2 * onN (HE T Q k d) + laB T Q k d
def ahB (T Q : Int → Int) (k e d : Int) : Bool := decide (rfT T Q k d < rfT T Q k e ∨ (rfT T Q k e = rfT T Q k d ∧ e < d))
def rkT (T Q : Int → Int) (k i : Int) : Int := fiZ (T 0) (fun d => decide (sumZ (T 0) (fun e => b01 (ahB T Q k e d)) = i))
def nsB (a b : Nat) : Bool := decide (J (a : Int) &&& (J (b : Int) ^^^ (J (-1))) = J 0)
def wiB (T Q : Int → Int) (a b : Int) : Bool := decide (fiZ (T 0) (fun d => !nsB (HE T Q a d) (HE T Q b d)) = -1)
def saT (T Q : Int → Int) : Int := sumZ (Q 0) (fun a => sumZ a (fun b => b01 (wiB T Q a b && wiB T Q b a)))
theorem fiZ_cut {n N : Int} {p : Int → Bool} (h0 : 0 ≤ n) (h1 : n ≤ N) (h : ∀ i, n ≤ i → i < N → p i = false) : fiZ N p = fiZ n p := by
  rcases fiZ_spec n p with ⟨e1, e2⟩ | ⟨e1, e2, e3, e4⟩
  · rw [e1]
    refine fiZ_none (fun i i0 i1 => ?_)
    by_cases z : i < n
    · exact e2 i i0 z
    · exact h i (by omega) i1
  · exact fiZ_eq e1 (by omega) e3 e4
section FO
variable {h : Hp} {o : Nat} {T Q : Int → Int}
theorem aoT_lt (W : AW T) {k t : Int} : aoT T Q k t < 16 := by
  have h0 := W.n0
  exact Nat.lt_of_lt_of_le (setN_lt _ _) (show 2 ^ (T 0).toNat ≤ 2 ^ 4 from Nat.pow_le_pow_right (by decide) (by omega))
theorem ltT_rg (W : AW T) {d t : Int} (d0 : 0 ≤ d) (d1 : d < 4) : -1 ≤ ltT T d t ∧ ltT T d t < 10 := by
  have hn := W.nv d0 d1
  unfold ltT
  rcases laZ_spec (T (1 + d)) (fun v => decide (dtT T d v ≤ t)) with ⟨e, _⟩ | ⟨e1, e2, _⟩ <;> omega
theorem ch_high (W : AW T) (D : DW T) {k t : Int} (ht : nvT T ≤ t) : chB T Q k t = false := by
  unfold chB aoT
  refine decide_eq_false (fun q => q ?_)
  refine setN_congr (fun d d0 d1 => ?_)
  have hd : ltT T d t = ltT T d (t - 1) := by
    unfold ltT
    have key : ∀ n : Nat, (n : Int) ≤ T (1 + d) → laN n (fun v => decide (dtT T d v ≤ t)) = laN n (fun v => decide (dtT T d v ≤ t - 1)) := by
      intro n
      induction n with
      | zero => intro _; rfl
      | succ n ih =>
        intro hn
        have := D d n ⟨d0, by omega, by omega, by omega⟩
        show (if decide (dtT T d n ≤ t) = true then (n : Int) else _) = (if decide (dtT T d n ≤ t - 1) = true then (n : Int) else _)
        rw [decide_eq_true (by omega), decide_eq_true (by omega), if_pos rfl, if_pos rfl]
    by_cases hz : 0 ≤ T (1 + d)
    · exact key (T (1 + d)).toNat (by omega)
    · unfold laZ
      rw [show (T (1 + d)).toNat = 0 by omega]
      rfl
  rw [hd]
theorem ao_neg (D : DW T) {k : Int} : aoT T Q k (-1) = 0 := by
  unfold aoT
  have : setN (T 0).toNat (fun d => bt (HE T Q k d) (ltT T d (-1))) = setN (T 0).toNat (fun _ => false) := by
    refine setN_congr (fun d d0 d1 => ?_)
    have hl : ltT T d (-1) = -1 := by
      unfold ltT
      rcases laZ_spec (T (1 + d)) (fun v => decide (dtT T d v ≤ -1)) with ⟨e, _⟩ | ⟨e1, e2, e3, _⟩
      · exact e
      · have := D d _ ⟨d0, by omega, e1, e2⟩
        have e4 : dtT T d (laZ (T (1 + d)) (fun v => decide (dtT T d v ≤ -1))) ≤ -1 := by simpa using e3
        omega
    rw [hl]
    rfl
  rw [this]
  have z : ∀ n : Nat, setN n (fun _ => false) = 0 := by
    intro n
    induction n with
    | zero => rfl
    | succ n ih => exact (setN_F (i := n) (f := fun _ => false) rfl).trans ih
  exact z _
theorem vh_rg (A : AW T) (W : QW Q) {k : Int} (k0 : 0 ≤ k) (k1 : k < Q 0) : 0 ≤ vhT T Q k ∧ vhT T Q k ≤ 40 := by
  have h0 := A.n0
  have := sumZ_nonneg (n := T 0) (c := 10) (f := fun d => onN (HE T Q k d)) h0.1 (fun d d0 d1 => onN_rg _ (HE_lt A W k0 k1 d0 (by omega)))
  unfold vhT
  omega
theorem rf_rg (A : AW T) (W : QW Q) {k d : Int} (k0 : 0 ≤ k) (k1 : k < Q 0) (d0 : 0 ≤ d) (d1 : d < 4) : 0 ≤ onN (HE T Q k d) ∧ onN (HE T Q k d) ≤ 10 ∧ 0 ≤ laB T Q k d ∧ laB T Q k d ≤ 1 := by
  have h1 := onN_rg _ (HE_lt (T := T) A W k0 k1 d0 d1)
  have h2 := b01_rg (bt (HE T Q k d) (T (1 + d) - 1))
  unfold laB
  omega
section FC
variable {x : Nat} {n : Int}
theorem SC.held (S : SC h x T Q n) (X : TS8 (top h) x) (A : AW T) {k d : Int} (k0 : 0 ≤ k) (k1 : k < n) (n8 : n ≤ 8) (d0 : 0 ≤ d) (d1 : d < T 0) : m_X8_held x (J k) (J d) h = some (J (HE T Q k d : Nat)) := by
  have h0 := A.n0
  rw [X8_held_at X (by omega) (by omega), atE_in (by omega) (by omega), S k d k0 k1 d0 d1]
theorem CA.versionsHeld (H : CA h o T) (W : QW Q) (X : TS8 (top h) x) (S : SC h x T Q n) (hn : n ≤ Q 0) {k : Int} (k0 : 0 ≤ k) (k1 : k < n) : m_X8_versionsHeld x o (J k) h = some (J (vhT T Q k)) := by
  have h0 := H.wf.n0
  have hsz := W.1
  unfold m_X8_versionsHeld l_X8_versionsHeld_5 vhT
  refine loop_int (fun i => (J (sumZ i (fun d => onN (HE T Q k d))), J i)) (T 0) h0.1 (by omega) rfl (fun k_ i hi hi2 => ?_) (fun k_ => ?_)
  · have e := S.held X H.wf k0 k1 (by omega) hi hi2
    have hl := HE_lt (T := T) H.wf W k0 (by omega) hi (by omega)
    rw [sumZ_succ hi]
    simp (disch := omega) only [b_X8_versionsHeld_5, H.f0, rc_ok X.1, e, J6_bitCount_ok hl, lm8, lm2, lm1, l0, l1, l2, l3, l4, l5, l6, l7, l8, l9, l10, l11, l12, l13, l14, l15, l16, l17, l18, l19, l20, l21, l22, l23, l24, l25, l27, l31, l32, l40, l46, l48, l50, l57, l59, l63, l86, l96, l97, l100, l110, l114, l122, l127, l200, l255, l300, l319, l320, l340, l441, l456, l580, l600, l800, l886, l1206, l1526, J_add, J_sub, J_mul, J_neg, J_lt, J_le, J_eq, jT, jF, iT, iF, eT, eF, aT, aF, ite_true, ite_false, ite_not, bs]
  · simp (disch := omega) only [b_X8_versionsHeld_5, H.f0, lm8, lm2, lm1, l0, l1, l2, l3, l4, l5, l6, l7, l8, l9, l10, l11, l12, l13, l14, l15, l16, l17, l18, l19, l20, l21, l22, l23, l24, l25, l27, l31, l32, l40, l46, l48, l50, l57, l59, l63, l86, l96, l97, l100, l110, l114, l122, l127, l200, l255, l300, l319, l320, l340, l441, l456, l580, l600, l800, l886, l1206, l1526, J_add, J_sub, J_mul, J_neg, J_lt, J_le, J_eq, jT, jF, iT, iF, eT, eF, aT, aF, ite_true, ite_false, ite_not, bs]
theorem CA.everIn (H : CA h o T) (W : QW Q) (X : TS8 (top h) x) (S : SC h x T Q n) (hn : n ≤ Q 0) {k : Int} (k0 : 0 ≤ k) (k1 : k < n) : m_X8_everIn x o (J k) h = some (J (evT T Q k : Nat)) := by
  have h0 := H.wf.n0
  have hsz := W.1
  unfold m_X8_everIn l_X8_everIn_5 evT
  refine loop_int (fun i => (J (setN i.toNat (fun d => decide (HE T Q k d ≠ 0)) : Nat), J i)) (T 0) h0.1 (by omega) rfl (fun k_ i hi hi2 => ?_) (fun k_ => ?_)
  · have e := S.held X H.wf k0 k1 (by omega) hi hi2
    have hl := HE_lt (T := T) H.wf W k0 (by omega) hi (by omega)
    have es := set_or (f := fun d => decide (HE T Q k d ≠ 0)) hi (by omega)
    rw [← es]
    by_cases hz : HE T Q k i = 0
    · rw [decide_eq_false (fun q => q hz), cond_false]
      rw [hz] at e
      simp (disch := omega) only [b_X8_everIn_5, j_X8_everIn_33, H.f0, rc_ok X.1, e, lm8, lm2, lm1, l0, l1, l2, l3, l4, l5, l6, l7, l8, l9, l10, l11, l12, l13, l14, l15, l16, l17, l18, l19, l20, l21, l22, l23, l24, l25, l27, l31, l32, l40, l46, l48, l50, l57, l59, l63, l86, l96, l97, l100, l110, l114, l122, l127, l200, l255, l300, l319, l320, l340, l441, l456, l580, l600, l800, l886, l1206, l1526, J_add, J_sub, J_mul, J_neg, J_lt, J_le, J_eq, jT, jF, iT, iF, eT, eF, aT, aF, ite_true, ite_false, ite_not, bs, J_or0]
    · rw [decide_eq_true hz, cond_true]
      simp (disch := omega) only [b_X8_everIn_5, j_X8_everIn_33, H.f0, rc_ok X.1, e, lm8, lm2, lm1, l0, l1, l2, l3, l4, l5, l6, l7, l8, l9, l10, l11, l12, l13, l14, l15, l16, l17, l18, l19, l20, l21, l22, l23, l24, l25, l27, l31, l32, l40, l46, l48, l50, l57, l59, l63, l86, l96, l97, l100, l110, l114, l122, l127, l200, l255, l300, l319, l320, l340, l441, l456, l580, l600, l800, l886, l1206, l1526, J_add, J_sub, J_mul, J_neg, J_lt, J_le, J_eq, jT, jF, iT, iF, eT, eF, aT, aF, ite_true, ite_false, ite_not, bs]
  · simp (disch := omega) only [b_X8_everIn_5, H.f0, lm8, lm2, lm1, l0, l1, l2, l3, l4, l5, l6, l7, l8, l9, l10, l11, l12, l13, l14, l15, l16, l17, l18, l19, l20, l21, l22, l23, l24, l25, l27, l31, l32, l40, l46, l48, l50, l57, l59, l63, l86, l96, l97, l100, l110, l114, l122, l127, l200, l255, l300, l319, l320, l340, l441, l456, l580, l600, l800, l886, l1206, l1526, J_add, J_sub, J_mul, J_neg, J_lt, J_le, J_eq, jT, jF, iT, iF, eT, eF, aT, aF, ite_true, ite_false, ite_not, bs]
theorem CA.alwaysIn (H : CA h o T) (W : QW Q) (X : TS8 (top h) x) (S : SC h x T Q n) (hn : n ≤ Q 0) {k : Int} (k0 : 0 ≤ k) (k1 : k < n) : m_X8_alwaysIn x o (J k) h = some (J (alwT T Q k : Nat)) := by
  have h0 := H.wf.n0
  have hsz := W.1
  unfold m_X8_alwaysIn l_X8_alwaysIn_5 alwT
  refine loop_int (fun i => (J (setN i.toNat (fun d => decide (HE T Q k d = 2 ^ (T (1 + d)).toNat - 1)) : Nat), J i)) (T 0) h0.1 (by omega) rfl (fun k_ i hi hi2 => ?_) (fun k_ => ?_)
  · have e := S.held X H.wf k0 k1 (by omega) hi hi2
    have hl := HE_lt (T := T) H.wf W k0 (by omega) hi (by omega)
    have hc := H.wf.nv hi (by omega)
    have ev := H.everyVersion hi (by omega)
    have hp : 2 ^ (T (1 + i)).toNat ≤ 2 ^ 10 := Nat.pow_le_pow_right (by decide) (by omega)
    have es := set_or (f := fun d => decide (HE T Q k d = 2 ^ (T (1 + d)).toNat - 1)) hi (by omega)
    rw [← es]
    dsimp only
    have hy : 2 ^ (T (1 + i)).toNat - 1 < 1024 := by omega
    generalize 2 ^ (T (1 + i)).toNat - 1 = y at *
    by_cases hz : HE T Q k i = y
    · rw [decide_eq_true hz, cond_true]
      rw [hz] at e
      simp (disch := omega) only [b_X8_alwaysIn_5, j_X8_alwaysIn_39, H.f0, rc_ok X.1, rc_ok H.tag, e, ev, lm8, lm2, lm1, l0, l1, l2, l3, l4, l5, l6, l7, l8, l9, l10, l11, l12, l13, l14, l15, l16, l17, l18, l19, l20, l21, l22, l23, l24, l25, l27, l31, l32, l40, l46, l48, l50, l57, l59, l63, l86, l96, l97, l100, l110, l114, l122, l127, l200, l255, l300, l319, l320, l340, l441, l456, l580, l600, l800, l886, l1206, l1526, J_add, J_sub, J_mul, J_neg, J_lt, J_le, J_eq, jT, jF, iT, iF, eT, eF, aT, aF, ite_true, ite_false, ite_not, bs]
    · rw [decide_eq_false hz, cond_false]
      simp (disch := omega) only [b_X8_alwaysIn_5, j_X8_alwaysIn_39, H.f0, rc_ok X.1, rc_ok H.tag, e, ev, lm8, lm2, lm1, l0, l1, l2, l3, l4, l5, l6, l7, l8, l9, l10, l11, l12, l13, l14, l15, l16, l17, l18, l19, l20, l21, l22, l23, l24, l25, l27, l31, l32, l40, l46, l48, l50, l57, l59, l63, l86, l96, l97, l100, l110, l114, l122, l127, l200, l255, l300, l319, l320, l340, l441, l456, l580, l600, l800, l886, l1206, l1526, J_add, J_sub, J_mul, J_neg, J_lt, J_le, J_eq, jT, jF, iT, iF, eT, eF, aT, aF, ite_true, ite_false, ite_not, bs, J_or0]
  · simp (disch := omega) only [b_X8_alwaysIn_5, H.f0, lm8, lm2, lm1, l0, l1, l2, l3, l4, l5, l6, l7, l8, l9, l10, l11, l12, l13, l14, l15, l16, l17, l18, l19, l20, l21, l22, l23, l24, l25, l27, l31, l32, l40, l46, l48, l50, l57, l59, l63, l86, l96, l97, l100, l110, l114, l122, l127, l200, l255, l300, l319, l320, l340, l441, l456, l580, l600, l800, l886, l1206, l1526, J_add, J_sub, J_mul, J_neg, J_lt, J_le, J_eq, jT, jF, iT, iF, eT, eF, aT, aF, ite_true, ite_false, ite_not, bs]
theorem CA.asOf (H : CA h o T) (D : DA h o T) (W : QW Q) (X : TS8 (top h) x) (S : SC h x T Q n) (hn : n ≤ Q 0) {k t : Int} (k0 : 0 ≤ k) (k1 : k < n) (t0 : -2147483648 ≤ t) (t1 : t < 2147483648) : m_X8_asOf x o (J k) (J t) h = some (J (aoT T Q k t : Nat)) := by
  have h0 := H.wf.n0
  have hsz := W.1
  have hv0 := nvT_rg H.wf
  have inner : ∀ (d : Int) (K : Int32 → Option Int32) (a : Int32), 0 ≤ d → d < T 0 → l_X8_asOf_21 x o (J k) (J t) a (J d) h K (J (-1)) (J 0) = K (J (ltT T d t)) := by
    intro d K a d0 d1
    have hc := H.wf.nv d0 (by omega)
    unfold l_X8_asOf_21 ltT
    refine loop_int (fun i => (J (laZ i (fun v => decide (dtT T d v ≤ t))), J i)) (T (1 + d)) hc.1 (by omega) rfl (fun k_ i hi hi2 => ?_) (fun k_ => ?_)
    · have hv : vvT T d i := ⟨d0, d1, hi, hi2⟩
      have hdt := D.1 d i hv
      rw [laZ_succ hi]
      by_cases hz : dtT T d i ≤ t
      · rw [decide_eq_true hz, if_pos rfl]
        simp (disch := omega) only [b_X8_asOf_21, j_X8_asOf_48, rc_ok H.tag, H.versionsOf, H.dateOf D hv, lm8, lm2, lm1, l0, l1, l2, l3, l4, l5, l6, l7, l8, l9, l10, l11, l12, l13, l14, l15, l16, l17, l18, l19, l20, l21, l22, l23, l24, l25, l27, l31, l32, l40, l46, l48, l50, l57, l59, l63, l86, l96, l97, l100, l110, l114, l122, l127, l200, l255, l300, l319, l320, l340, l441, l456, l580, l600, l800, l886, l1206, l1526, J_add, J_sub, J_mul, J_neg, J_lt, J_le, J_eq, jT, jF, iT, iF, eT, eF, aT, aF, ite_true, ite_false, ite_not, bs]
      · rw [decide_eq_false hz, if_neg (by decide)]
        simp (disch := omega) only [b_X8_asOf_21, j_X8_asOf_48, rc_ok H.tag, H.versionsOf, H.dateOf D hv, lm8, lm2, lm1, l0, l1, l2, l3, l4, l5, l6, l7, l8, l9, l10, l11, l12, l13, l14, l15, l16, l17, l18, l19, l20, l21, l22, l23, l24, l25, l27, l31, l32, l40, l46, l48, l50, l57, l59, l63, l86, l96, l97, l100, l110, l114, l122, l127, l200, l255, l300, l319, l320, l340, l441, l456, l580, l600, l800, l886, l1206, l1526, J_add, J_sub, J_mul, J_neg, J_lt, J_le, J_eq, jT, jF, iT, iF, eT, eF, aT, aF, ite_true, ite_false, ite_not, bs]
    · simp (disch := omega) only [b_X8_asOf_21, rc_ok H.tag, H.versionsOf, lm8, lm2, lm1, l0, l1, l2, l3, l4, l5, l6, l7, l8, l9, l10, l11, l12, l13, l14, l15, l16, l17, l18, l19, l20, l21, l22, l23, l24, l25, l27, l31, l32, l40, l46, l48, l50, l57, l59, l63, l86, l96, l97, l100, l110, l114, l122, l127, l200, l255, l300, l319, l320, l340, l441, l456, l580, l600, l800, l886, l1206, l1526, J_add, J_sub, J_mul, J_neg, J_lt, J_le, J_eq, jT, jF, iT, iF, eT, eF, aT, aF, ite_true, ite_false, ite_not, bs]
  unfold m_X8_asOf l_X8_asOf_6 aoT
  refine loop_int (fun i => (J (setN i.toNat (fun d => bt (HE T Q k d) (ltT T d t)) : Nat), J i)) (T 0) h0.1 (by omega) rfl (fun k_ i hi hi2 => ?_) (fun k_ => ?_)
  · have e := S.held X H.wf k0 k1 (by omega) hi hi2
    have hl := HE_lt (T := T) H.wf W k0 (by omega) hi (by omega)
    have hlt := ltT_rg H.wf hi (show i < 4 by omega) (t := t)
    have eb := X5_bit_ok (h := h) (v := ltT T i t) hl (by omega) (by omega)
    have ei := fun K a => inner i K a hi hi2
    have es := set_or (f := fun d => bt (HE T Q k d) (ltT T d t)) hi (by omega)
    rw [← es]
    cases hz : bt (HE T Q k i) (ltT T i t)
    · rw [hz] at eb
      rw [cond_false]
      simp (disch := omega) only [b_X8_asOf_6, j_X8_asOf_54, H.f0, rc_ok X.1, ei, e, eb, lm8, lm2, lm1, l0, l1, l2, l3, l4, l5, l6, l7, l8, l9, l10, l11, l12, l13, l14, l15, l16, l17, l18, l19, l20, l21, l22, l23, l24, l25, l27, l31, l32, l40, l46, l48, l50, l57, l59, l63, l86, l96, l97, l100, l110, l114, l122, l127, l200, l255, l300, l319, l320, l340, l441, l456, l580, l600, l800, l886, l1206, l1526, J_add, J_sub, J_mul, J_neg, J_lt, J_le, J_eq, jT, jF, iT, iF, eT, eF, aT, aF, ite_true, ite_false, ite_not, bs]
      rw [show b01 false = 0 from rfl, shl0, J_or0]
    · rw [hz] at eb
      rw [cond_true]
      simp (disch := omega) only [b_X8_asOf_6, j_X8_asOf_54, H.f0, rc_ok X.1, ei, e, eb, lm8, lm2, lm1, l0, l1, l2, l3, l4, l5, l6, l7, l8, l9, l10, l11, l12, l13, l14, l15, l16, l17, l18, l19, l20, l21, l22, l23, l24, l25, l27, l31, l32, l40, l46, l48, l50, l57, l59, l63, l86, l96, l97, l100, l110, l114, l122, l127, l200, l255, l300, l319, l320, l340, l441, l456, l580, l600, l800, l886, l1206, l1526, J_add, J_sub, J_mul, J_neg, J_lt, J_le, J_eq, jT, jF, iT, iF, eT, eF, aT, aF, ite_true, ite_false, ite_not, bs]
      rfl
  · simp (disch := omega) only [b_X8_asOf_6, H.f0, lm8, lm2, lm1, l0, l1, l2, l3, l4, l5, l6, l7, l8, l9, l10, l11, l12, l13, l14, l15, l16, l17, l18, l19, l20, l21, l22, l23, l24, l25, l27, l31, l32, l40, l46, l48, l50, l57, l59, l63, l86, l96, l97, l100, l110, l114, l122, l127, l200, l255, l300, l319, l320, l340, l441, l456, l580, l600, l800, l886, l1206, l1526, J_add, J_sub, J_mul, J_neg, J_lt, J_le, J_eq, jT, jF, iT, iF, eT, eF, aT, aF, ite_true, ite_false, ite_not, bs]
theorem CA.isChange (H : CA h o T) (D : DA h o T) (W : QW Q) (X : TS8 (top h) x) (S : SC h x T Q n) (hn : n ≤ Q 0) {k t : Int} (k0 : 0 ≤ k) (k1 : k < n) (t0 : 0 ≤ t) (t1 : t < 2147483648) : m_X8_isChange x o (J k) (J t) h = some (J (b01 (chB T Q k t))) := by
  have e1 := H.asOf D W X S hn k0 k1 (t := t) (by omega) t1
  have e2 := H.asOf D W X S hn k0 k1 (t := t - 1) (by omega) (by omega)
  have l1_ := aoT_lt (Q := Q) H.wf (k := k) (t := t)
  have l2_ := aoT_lt (Q := Q) H.wf (k := k) (t := t - 1)
  unfold chB
  generalize aoT T Q k t = a at *
  generalize aoT T Q k (t - 1) = b at *
  by_cases hz : a = b
  · rw [decide_eq_false (fun q => q hz)]
    rw [hz] at e1
    simp (disch := omega) only [m_X8_isChange, j_X8_isChange_24, rc_ok X.1, e1, e2, lm8, lm2, lm1, l0, l1, l2, l3, l4, l5, l6, l7, l8, l9, l10, l11, l12, l13, l14, l15, l16, l17, l18, l19, l20, l21, l22, l23, l24, l25, l27, l31, l32, l40, l46, l48, l50, l57, l59, l63, l86, l96, l97, l100, l110, l114, l122, l127, l200, l255, l300, l319, l320, l340, l441, l456, l580, l600, l800, l886, l1206, l1526, J_add, J_sub, J_mul, J_neg, J_lt, J_le, J_eq, jT, jF, iT, iF, eT, eF, aT, aF, ite_true, ite_false, ite_not, bs, zb0]
    rfl
  · rw [decide_eq_true hz]
    simp (disch := omega) only [m_X8_isChange, j_X8_isChange_24, rc_ok X.1, e1, e2, lm8, lm2, lm1, l0, l1, l2, l3, l4, l5, l6, l7, l8, l9, l10, l11, l12, l13, l14, l15, l16, l17, l18, l19, l20, l21, l22, l23, l24, l25, l27, l31, l32, l40, l46, l48, l50, l57, l59, l63, l86, l96, l97, l100, l110, l114, l122, l127, l200, l255, l300, l319, l320, l340, l441, l456, l580, l600, l800, l886, l1206, l1526, J_add, J_sub, J_mul, J_neg, J_lt, J_le, J_eq, jT, jF, iT, iF, eT, eF, aT, aF, ite_true, ite_false, ite_not, bs, zb1]
    rfl
theorem CA.changes (H : CA h o T) (D : DA h o T) (W : QW Q) (X : TS8 (top h) x) (S : SC h x T Q n) (hn : n ≤ Q 0) {k : Int} (k0 : 0 ≤ k) (k1 : k < n) : m_X8_changes x o (J k) h = some (J (chT T Q k)) := by
  have hv0 := nvT_rg H.wf
  have ea : m_X0_versionsOfAll o h = some (J (nvT T)) := H.all
  unfold m_X8_changes l_X8_changes_5 chT
  refine loop_int (fun i => (J (sumZ i (fun t => b01 (chB T Q k t))), J i)) (nvT T) hv0.1 (by omega) rfl (fun k_ i hi hi2 => ?_) (fun k_ => ?_)
  · rw [sumZ_succ hi]
    simp (disch := omega) only [b_X8_changes_5, j_X8_changes_31, rc_ok H.tag, ea, rc_ok X.1, H.isChange D W X S hn k0 k1 hi, lm8, lm2, lm1, l0, l1, l2, l3, l4, l5, l6, l7, l8, l9, l10, l11, l12, l13, l14, l15, l16, l17, l18, l19, l20, l21, l22, l23, l24, l25, l27, l31, l32, l40, l46, l48, l50, l57, l59, l63, l86, l96, l97, l100, l110, l114, l122, l127, l200, l255, l300, l319, l320, l340, l441, l456, l580, l600, l800, l886, l1206, l1526, J_add, J_sub, J_mul, J_neg, J_lt, J_le, J_eq, jT, jF, iT, iF, eT, eF, aT, aF, ite_true, ite_false, ite_not, bs, bI, bJ]
  · simp (disch := omega) only [b_X8_changes_5, rc_ok H.tag, ea, lm8, lm2, lm1, l0, l1, l2, l3, l4, l5, l6, l7, l8, l9, l10, l11, l12, l13, l14, l15, l16, l17, l18, l19, l20, l21, l22, l23, l24, l25, l27, l31, l32, l40, l46, l48, l50, l57, l59, l63, l86, l96, l97, l100, l110, l114, l122, l127, l200, l255, l300, l319, l320, l340, l441, l456, l580, l600, l800, l886, l1206, l1526, J_add, J_sub, J_mul, J_neg, J_lt, J_le, J_eq, jT, jF, iT, iF, eT, eF, aT, aF, ite_true, ite_false, ite_not, bs]
theorem ch_sum {k i : Int} (hi : 0 ≤ i) : 0 ≤ sumZ i (fun t => b01 (chB T Q k t)) ∧ sumZ i (fun t => b01 (chB T Q k t)) ≤ i := by
  have := sumZ_nonneg (n := i) (c := 1) (f := fun t => b01 (chB T Q k t)) hi (fun t _ _ => b01_rg _)
  omega
theorem CA.changeAt (H : CA h o T) (D : DA h o T) (W : QW Q) (X : TS8 (top h) x) (S : SC h x T Q n) (hn : n ≤ Q 0) {k i : Int} (k0 : 0 ≤ k) (k1 : k < n) (i0 : -2147483648 ≤ i) (i1 : i < 2147483648) : m_X8_changeAt x o (J k) (J i) h = some (J (caT T Q k i)) := by
  have hv0 := nvT_rg H.wf
  have ea : m_X0_versionsOfAll o h = some (J (nvT T)) := H.all
  unfold m_X8_changeAt l_X8_changeAt_6 caT
  refine loop_find (fun t => (J (sumZ t (fun t => b01 (chB T Q k t))), J t)) (nvT T) (fun t => chB T Q k t && decide (sumZ t (fun t => b01 (chB T Q k t)) = i)) (fun t => some (J t)) hv0.1 (by omega) rfl (fun k_ t t0 t1 hp => ?_) (fun k_ t t0 t1 hp => ?_) (fun k_ => ?_)
  · have hs := ch_sum (T := T) (Q := Q) (k := k) t0
    have e := H.isChange D W X S hn k0 k1 t0 (by omega)
    rw [sumZ_succ t0]
    cases hz : chB T Q k t
    · rw [hz] at e
      simp (disch := omega) only [b_X8_changeAt_6, j_X8_changeAt_38, rc_ok H.tag, ea, rc_ok X.1, e, lm8, lm2, lm1, l0, l1, l2, l3, l4, l5, l6, l7, l8, l9, l10, l11, l12, l13, l14, l15, l16, l17, l18, l19, l20, l21, l22, l23, l24, l25, l27, l31, l32, l40, l46, l48, l50, l57, l59, l63, l86, l96, l97, l100, l110, l114, l122, l127, l200, l255, l300, l319, l320, l340, l441, l456, l580, l600, l800, l886, l1206, l1526, J_add, J_sub, J_mul, J_neg, J_lt, J_le, J_eq, jT, jF, iT, iF, eT, eF, aT, aF, ite_true, ite_false, ite_not, bs, bI, cond_false]
      rw [show b01 false = 0 from rfl, Int.add_zero]
    · rw [hz] at e
      rw [hz, Bool.true_and] at hp
      have hp2 : ¬ sumZ t (fun t => b01 (chB T Q k t)) = i := by simpa using hp
      simp (disch := omega) only [b_X8_changeAt_6, j_X8_changeAt_38, rc_ok H.tag, ea, rc_ok X.1, e, lm8, lm2, lm1, l0, l1, l2, l3, l4, l5, l6, l7, l8, l9, l10, l11, l12, l13, l14, l15, l16, l17, l18, l19, l20, l21, l22, l23, l24, l25, l27, l31, l32, l40, l46, l48, l50, l57, l59, l63, l86, l96, l97, l100, l110, l114, l122, l127, l200, l255, l300, l319, l320, l340, l441, l456, l580, l600, l800, l886, l1206, l1526, J_add, J_sub, J_mul, J_neg, J_lt, J_le, J_eq, jT, jF, iT, iF, eT, eF, aT, aF, ite_true, ite_false, ite_not, bs, bI, cond_true]
      rfl
  · have hs := ch_sum (T := T) (Q := Q) (k := k) t0
    have e := H.isChange D W X S hn k0 k1 t0 (by omega)
    rw [Bool.and_eq_true] at hp
    rw [hp.1] at e
    have hp2 : sumZ t (fun t => b01 (chB T Q k t)) = i := by simpa using hp.2
    simp (disch := omega) only [b_X8_changeAt_6, j_X8_changeAt_38, rc_ok H.tag, ea, rc_ok X.1, e, lm8, lm2, lm1, l0, l1, l2, l3, l4, l5, l6, l7, l8, l9, l10, l11, l12, l13, l14, l15, l16, l17, l18, l19, l20, l21, l22, l23, l24, l25, l27, l31, l32, l40, l46, l48, l50, l57, l59, l63, l86, l96, l97, l100, l110, l114, l122, l127, l200, l255, l300, l319, l320, l340, l441, l456, l580, l600, l800, l886, l1206, l1526, J_add, J_sub, J_mul, J_neg, J_lt, J_le, J_eq, jT, jF, iT, iF, eT, eF, aT, aF, ite_true, ite_false, ite_not, bs, bI, cond_true]
  · simp (disch := omega) only [b_X8_changeAt_6, rc_ok H.tag, ea, lm8, lm2, lm1, l0, l1, l2, l3, l4, l5, l6, l7, l8, l9, l10, l11, l12, l13, l14, l15, l16, l17, l18, l19, l20, l21, l22, l23, l24, l25, l27, l31, l32, l40, l46, l48, l50, l57, l59, l63, l86, l96, l97, l100, l110, l114, l122, l127, l200, l255, l300, l319, l320, l340, l441, l456, l580, l600, l800, l886, l1206, l1526, J_add, J_sub, J_mul, J_neg, J_lt, J_le, J_eq, jT, jF, iT, iF, eT, eF, aT, aF, ite_true, ite_false, ite_not, bs]
theorem CA.latestHeld (H : CA h o T) (W : QW Q) (X : TS8 (top h) x) (S : SC h x T Q n) (hn : n ≤ Q 0) {k d : Int} (k0 : 0 ≤ k) (k1 : k < n) (d0 : 0 ≤ d) (d1 : d < T 0) : m_X8_latestHeld x o (J k) (J d) h = some (J (laB T Q k d)) := by
  have h0 := H.wf.n0
  have hsz := W.1
  have hc := H.wf.nv d0 (by omega)
  have e := S.held X H.wf k0 k1 (by omega) d0 d1
  have hl := HE_lt (T := T) H.wf W k0 (by omega) d0 (by omega)
  have eb := X5_bit_ok (h := h) (v := T (1 + d) - 1) hl (by omega) (by omega)
  simp (disch := omega) only [m_X8_latestHeld, rc_ok X.1, rc_ok H.tag, e, H.versionsOf, eb, lm8, lm2, lm1, l0, l1, l2, l3, l4, l5, l6, l7, l8, l9, l10, l11, l12, l13, l14, l15, l16, l17, l18, l19, l20, l21, l22, l23, l24, l25, l27, l31, l32, l40, l46, l48, l50, l57, l59, l63, l86, l96, l97, l100, l110, l114, l122, l127, l200, l255, l300, l319, l320, l340, l441, l456, l580, l600, l800, l886, l1206, l1526, J_add, J_sub, J_mul, J_neg, J_lt, J_le, J_eq, jT, jF, iT, iF, eT, eF, aT, aF, ite_true, ite_false, ite_not, bs]
  rfl
theorem CA.isAhead (H : CA h o T) (W : QW Q) (X : TS8 (top h) x) (S : SC h x T Q n) (hn : n ≤ Q 0) {k e d : Int} (k0 : 0 ≤ k) (k1 : k < n) (e0 : 0 ≤ e) (e1 : e < T 0) (d0 : 0 ≤ d) (d1 : d < T 0) : m_X8_isAhead x o (J k) (J e) (J d) h = some (J (b01 (ahB T Q k e d))) := by
  have h0 := H.wf.n0
  have hsz := W.1
  have eh := S.held X H.wf k0 k1 (by omega) e0 e1
  have dh := S.held X H.wf k0 k1 (by omega) d0 d1
  have el := HE_lt (T := T) H.wf W k0 (show k < Q 0 by omega) e0 (by omega)
  have dl := HE_lt (T := T) H.wf W k0 (show k < Q 0 by omega) d0 (by omega)
  have la := H.latestHeld W X S hn k0 k1 e0 e1
  have lb := H.latestHeld W X S hn k0 k1 d0 d1
  have r1 := rf_rg H.wf W k0 (show k < Q 0 by omega) e0 (show e < 4 by omega)
  have r2 := rf_rg H.wf W k0 (show k < Q 0 by omega) d0 (show d < 4 by omega)
  have c1 := J6_bitCount_ok (h := h) el
  have c2 := J6_bitCount_ok (h := h) dl
  unfold ahB rfT
  generalize onN (HE T Q k e) = oe at *
  generalize onN (HE T Q k d) = od at *
  generalize laB T Q k e = le at *
  generalize laB T Q k d = ld at *
  by_cases hz : oe - od = 0
  · by_cases hy : le - ld = 0
    · by_cases hw : d ≤ e
      · rw [decide_eq_false (by omega)]
        simp (disch := omega) only [m_X8_isAhead, j_X8_isAhead_85, rc_ok X.1, eh, dh, c1, c2, la, lb, lm8, lm2, lm1, l0, l1, l2, l3, l4, l5, l6, l7, l8, l9, l10, l11, l12, l13, l14, l15, l16, l17, l18, l19, l20, l21, l22, l23, l24, l25, l27, l31, l32, l40, l46, l48, l50, l57, l59, l63, l86, l96, l97, l100, l110, l114, l122, l127, l200, l255, l300, l319, l320, l340, l441, l456, l580, l600, l800, l886, l1206, l1526, J_add, J_sub, J_mul, J_neg, J_lt, J_le, J_eq, jT, jF, iT, iF, eT, eF, aT, aF, ite_true, ite_false, ite_not, bs, zb0]
        rfl
      · rw [decide_eq_true (by omega)]
        simp (disch := omega) only [m_X8_isAhead, j_X8_isAhead_85, rc_ok X.1, eh, dh, c1, c2, la, lb, lm8, lm2, lm1, l0, l1, l2, l3, l4, l5, l6, l7, l8, l9, l10, l11, l12, l13, l14, l15, l16, l17, l18, l19, l20, l21, l22, l23, l24, l25, l27, l31, l32, l40, l46, l48, l50, l57, l59, l63, l86, l96, l97, l100, l110, l114, l122, l127, l200, l255, l300, l319, l320, l340, l441, l456, l580, l600, l800, l886, l1206, l1526, J_add, J_sub, J_mul, J_neg, J_lt, J_le, J_eq, jT, jF, iT, iF, eT, eF, aT, aF, ite_true, ite_false, ite_not, bs, zb1]
        rfl
    · by_cases hw : le - ld ≤ 0
      · rw [decide_eq_false (by omega)]
        simp (disch := omega) only [m_X8_isAhead, j_X8_isAhead_85, rc_ok X.1, eh, dh, c1, c2, la, lb, lm8, lm2, lm1, l0, l1, l2, l3, l4, l5, l6, l7, l8, l9, l10, l11, l12, l13, l14, l15, l16, l17, l18, l19, l20, l21, l22, l23, l24, l25, l27, l31, l32, l40, l46, l48, l50, l57, l59, l63, l86, l96, l97, l100, l110, l114, l122, l127, l200, l255, l300, l319, l320, l340, l441, l456, l580, l600, l800, l886, l1206, l1526, J_add, J_sub, J_mul, J_neg, J_lt, J_le, J_eq, jT, jF, iT, iF, eT, eF, aT, aF, ite_true, ite_false, ite_not, bs, zb0]
        rfl
      · rw [decide_eq_true (by omega)]
        simp (disch := omega) only [m_X8_isAhead, j_X8_isAhead_85, rc_ok X.1, eh, dh, c1, c2, la, lb, lm8, lm2, lm1, l0, l1, l2, l3, l4, l5, l6, l7, l8, l9, l10, l11, l12, l13, l14, l15, l16, l17, l18, l19, l20, l21, l22, l23, l24, l25, l27, l31, l32, l40, l46, l48, l50, l57, l59, l63, l86, l96, l97, l100, l110, l114, l122, l127, l200, l255, l300, l319, l320, l340, l441, l456, l580, l600, l800, l886, l1206, l1526, J_add, J_sub, J_mul, J_neg, J_lt, J_le, J_eq, jT, jF, iT, iF, eT, eF, aT, aF, ite_true, ite_false, ite_not, bs, zb1]
        rfl
  · by_cases hw : oe - od ≤ 0
    · rw [decide_eq_false (by omega)]
      simp (disch := omega) only [m_X8_isAhead, j_X8_isAhead_37, rc_ok X.1, eh, dh, c1, c2, lm8, lm2, lm1, l0, l1, l2, l3, l4, l5, l6, l7, l8, l9, l10, l11, l12, l13, l14, l15, l16, l17, l18, l19, l20, l21, l22, l23, l24, l25, l27, l31, l32, l40, l46, l48, l50, l57, l59, l63, l86, l96, l97, l100, l110, l114, l122, l127, l200, l255, l300, l319, l320, l340, l441, l456, l580, l600, l800, l886, l1206, l1526, J_add, J_sub, J_mul, J_neg, J_lt, J_le, J_eq, jT, jF, iT, iF, eT, eF, aT, aF, ite_true, ite_false, ite_not, bs, zb0]
      rfl
    · rw [decide_eq_true (by omega)]
      simp (disch := omega) only [m_X8_isAhead, j_X8_isAhead_37, rc_ok X.1, eh, dh, c1, c2, lm8, lm2, lm1, l0, l1, l2, l3, l4, l5, l6, l7, l8, l9, l10, l11, l12, l13, l14, l15, l16, l17, l18, l19, l20, l21, l22, l23, l24, l25, l27, l31, l32, l40, l46, l48, l50, l57, l59, l63, l86, l96, l97, l100, l110, l114, l122, l127, l200, l255, l300, l319, l320, l340, l441, l456, l580, l600, l800, l886, l1206, l1526, J_add, J_sub, J_mul, J_neg, J_lt, J_le, J_eq, jT, jF, iT, iF, eT, eF, aT, aF, ite_true, ite_false, ite_not, bs, zb1]
      rfl
theorem ah_self {k d : Int} : ahB T Q k d d = false := by
  unfold ahB
  exact decide_eq_false (by omega)
theorem ah_sum {k d i : Int} (hi : 0 ≤ i) : 0 ≤ sumZ i (fun e => b01 (ahB T Q k e d)) ∧ sumZ i (fun e => b01 (ahB T Q k e d)) ≤ i := by
  have := sumZ_nonneg (n := i) (c := 1) (f := fun e => b01 (ahB T Q k e d)) hi (fun t _ _ => b01_rg _)
  omega
theorem CA.ranked (H : CA h o T) (W : QW Q) (X : TS8 (top h) x) (S : SC h x T Q n) (hn : n ≤ Q 0) {k i : Int} (k0 : 0 ≤ k) (k1 : k < n) (i0 : -2147483648 ≤ i) (i1 : i < 2147483648) : m_X8_ranked x o (J k) (J i) h = some (J (rkT T Q k i)) := by
  have h0 := H.wf.n0
  have inner : ∀ (d : Int) (K : Int32 → Option Int32), 0 ≤ d → d < T 0 → l_X8_ranked_18 x o (J k) (J i) (J d) h K (J 0) (J 0) = K (J (sumZ (T 0) (fun e => b01 (ahB T Q k e d)))) := by
    intro d K d0 d1
    unfold l_X8_ranked_18
    refine loop_int (fun e => (J (sumZ e (fun e => b01 (ahB T Q k e d))), J e)) (T 0) h0.1 (by omega) rfl (fun k_ e e0 e1 => ?_) (fun k_ => ?_)
    · rw [sumZ_succ e0]
      by_cases hz : e = d
      · rw [hz, ah_self]
        simp (disch := omega) only [b_X8_ranked_18, j_X8_ranked_54, H.f0, lm8, lm2, lm1, l0, l1, l2, l3, l4, l5, l6, l7, l8, l9, l10, l11, l12, l13, l14, l15, l16, l17, l18, l19, l20, l21, l22, l23, l24, l25, l27, l31, l32, l40, l46, l48, l50, l57, l59, l63, l86, l96, l97, l100, l110, l114, l122, l127, l200, l255, l300, l319, l320, l340, l441, l456, l580, l600, l800, l886, l1206, l1526, J_add, J_sub, J_mul, J_neg, J_lt, J_le, J_eq, jT, jF, iT, iF, eT, eF, aT, aF, ite_true, ite_false, ite_not, bs]
        rfl
      · simp (disch := omega) only [b_X8_ranked_18, j_X8_ranked_54, H.f0, rc_ok X.1, H.isAhead W X S hn k0 k1 e0 e1 d0 d1, lm8, lm2, lm1, l0, l1, l2, l3, l4, l5, l6, l7, l8, l9, l10, l11, l12, l13, l14, l15, l16, l17, l18, l19, l20, l21, l22, l23, l24, l25, l27, l31, l32, l40, l46, l48, l50, l57, l59, l63, l86, l96, l97, l100, l110, l114, l122, l127, l200, l255, l300, l319, l320, l340, l441, l456, l580, l600, l800, l886, l1206, l1526, J_add, J_sub, J_mul, J_neg, J_lt, J_le, J_eq, jT, jF, iT, iF, eT, eF, aT, aF, ite_true, ite_false, ite_not, bs, bI, bJ]
    · simp (disch := omega) only [b_X8_ranked_18, H.f0, lm8, lm2, lm1, l0, l1, l2, l3, l4, l5, l6, l7, l8, l9, l10, l11, l12, l13, l14, l15, l16, l17, l18, l19, l20, l21, l22, l23, l24, l25, l27, l31, l32, l40, l46, l48, l50, l57, l59, l63, l86, l96, l97, l100, l110, l114, l122, l127, l200, l255, l300, l319, l320, l340, l441, l456, l580, l600, l800, l886, l1206, l1526, J_add, J_sub, J_mul, J_neg, J_lt, J_le, J_eq, jT, jF, iT, iF, eT, eF, aT, aF, ite_true, ite_false, ite_not, bs]
  unfold m_X8_ranked l_X8_ranked_3 rkT
  refine loop_find (fun d => J d) (T 0) (fun d => decide (sumZ (T 0) (fun e => b01 (ahB T Q k e d)) = i)) (fun d => some (J d)) h0.1 (by omega) rfl (fun k_ d d0 d1 hp => ?_) (fun k_ d d0 d1 hp => ?_) (fun k_ => ?_)
  · have hs := ah_sum (T := T) (Q := Q) (k := k) (d := d) h0.1
    have e := fun K => inner d K d0 d1
    have hp2 : ¬ sumZ (T 0) (fun e => b01 (ahB T Q k e d)) = i := by simpa using hp
    simp (disch := omega) only [b_X8_ranked_3, j_X8_ranked_63, H.f0, e, lm8, lm2, lm1, l0, l1, l2, l3, l4, l5, l6, l7, l8, l9, l10, l11, l12, l13, l14, l15, l16, l17, l18, l19, l20, l21, l22, l23, l24, l25, l27, l31, l32, l40, l46, l48, l50, l57, l59, l63, l86, l96, l97, l100, l110, l114, l122, l127, l200, l255, l300, l319, l320, l340, l441, l456, l580, l600, l800, l886, l1206, l1526, J_add, J_sub, J_mul, J_neg, J_lt, J_le, J_eq, jT, jF, iT, iF, eT, eF, aT, aF, ite_true, ite_false, ite_not, bs]
  · have hs := ah_sum (T := T) (Q := Q) (k := k) (d := d) h0.1
    have e := fun K => inner d K d0 d1
    have hp2 : sumZ (T 0) (fun e => b01 (ahB T Q k e d)) = i := by simpa using hp
    simp (disch := omega) only [b_X8_ranked_3, j_X8_ranked_63, H.f0, e, lm8, lm2, lm1, l0, l1, l2, l3, l4, l5, l6, l7, l8, l9, l10, l11, l12, l13, l14, l15, l16, l17, l18, l19, l20, l21, l22, l23, l24, l25, l27, l31, l32, l40, l46, l48, l50, l57, l59, l63, l86, l96, l97, l100, l110, l114, l122, l127, l200, l255, l300, l319, l320, l340, l441, l456, l580, l600, l800, l886, l1206, l1526, J_add, J_sub, J_mul, J_neg, J_lt, J_le, J_eq, jT, jF, iT, iF, eT, eF, aT, aF, ite_true, ite_false, ite_not, bs]
  · simp (disch := omega) only [b_X8_ranked_3, H.f0, lm8, lm2, lm1, l0, l1, l2, l3, l4, l5, l6, l7, l8, l9, l10, l11, l12, l13, l14, l15, l16, l17, l18, l19, l20, l21, l22, l23, l24, l25, l27, l31, l32, l40, l46, l48, l50, l57, l59, l63, l86, l96, l97, l100, l110, l114, l122, l127, l200, l255, l300, l319, l320, l340, l441, l456, l580, l600, l800, l886, l1206, l1526, J_add, J_sub, J_mul, J_neg, J_lt, J_le, J_eq, jT, jF, iT, iF, eT, eF, aT, aF, ite_true, ite_false, ite_not, bs]
theorem CA.within (H : CA h o T) (W : QW Q) (X : TS8 (top h) x) (S : SC h x T Q n) (hn : n ≤ Q 0) {a b : Int} (a0 : 0 ≤ a) (a1 : a < n) (b0 : 0 ≤ b) (b1 : b < n) : m_X8_within x o (J a) (J b) h = some (J (b01 (wiB T Q a b))) := by
  have h0 := H.wf.n0
  have hsz := W.1
  unfold m_X8_within l_X8_within_3 wiB
  refine loop_find (fun d => J d) (T 0) (fun d => !nsB (HE T Q a d) (HE T Q b d)) (fun d => some (J (b01 (decide (d = -1))))) h0.1 (by omega) rfl (fun k_ d d0 d1 hp => ?_) (fun k_ d d0 d1 hp => ?_) (fun k_ => ?_)
  · have ea := S.held X H.wf a0 a1 (by omega) d0 d1
    have eb := S.held X H.wf b0 b1 (by omega) d0 d1
    have hp2 : nsB (HE T Q a d) (HE T Q b d) = true := by simpa using hp
    have hp3 := of_decide_eq_true hp2
    simp (disch := omega) only [b_X8_within_3, H.f0, rc_ok X.1, ea, eb, lm8, lm2, lm1, l0, l1, l2, l3, l4, l5, l6, l7, l8, l9, l10, l11, l12, l13, l14, l15, l16, l17, l18, l19, l20, l21, l22, l23, l24, l25, l27, l31, l32, l40, l46, l48, l50, l57, l59, l63, l86, l96, l97, l100, l110, l114, l122, l127, l200, l255, l300, l319, l320, l340, l441, l456, l580, l600, l800, l886, l1206, l1526, J_add, J_sub, J_mul, J_neg, J_lt, J_le, J_eq, jT, jF, iT, iF, eT, eF, aT, aF, ite_true, ite_false, ite_not, bs, hp3]
  · have ea := S.held X H.wf a0 a1 (by omega) d0 d1
    have eb := S.held X H.wf b0 b1 (by omega) d0 d1
    have hp2 : nsB (HE T Q a d) (HE T Q b d) = false := by simpa using hp
    have hp3 := of_decide_eq_false hp2
    rw [decide_eq_false (by omega)]
    simp (disch := omega) only [b_X8_within_3, H.f0, rc_ok X.1, ea, eb, lm8, lm2, lm1, l0, l1, l2, l3, l4, l5, l6, l7, l8, l9, l10, l11, l12, l13, l14, l15, l16, l17, l18, l19, l20, l21, l22, l23, l24, l25, l27, l31, l32, l40, l46, l48, l50, l57, l59, l63, l86, l96, l97, l100, l110, l114, l122, l127, l200, l255, l300, l319, l320, l340, l441, l456, l580, l600, l800, l886, l1206, l1526, J_add, J_sub, J_mul, J_neg, J_lt, J_le, J_eq, jT, jF, iT, iF, eT, eF, aT, aF, ite_true, ite_false, ite_not, bs, if_neg hp3]
    rfl
  · simp (disch := omega) only [b_X8_within_3, H.f0, lm8, lm2, lm1, l0, l1, l2, l3, l4, l5, l6, l7, l8, l9, l10, l11, l12, l13, l14, l15, l16, l17, l18, l19, l20, l21, l22, l23, l24, l25, l27, l31, l32, l40, l46, l48, l50, l57, l59, l63, l86, l96, l97, l100, l110, l114, l122, l127, l200, l255, l300, l319, l320, l340, l441, l456, l580, l600, l800, l886, l1206, l1526, J_add, J_sub, J_mul, J_neg, J_lt, J_le, J_eq, jT, jF, iT, iF, eT, eF, aT, aF, ite_true, ite_false, ite_not, bs]
    rfl
theorem CA.sameCouples (H : CA h o T) {g : Nat} (G : QA h g Q) (X : TS8 (top h) x) (S : SC h x T Q (Q 0)) : m_X8_sameCouples x o g h = some (J (saT T Q)) := by
  have hsz := G.2.1.1
  have inner : ∀ (a : Int) (K : Int32 → Option Int32) (c : Int), 0 ≤ a → a < Q 0 → l_X8_sameCouples_17 x o g (J a) h K (J c) (J 0) = K (J (c + sumZ a (fun b => b01 (wiB T Q a b && wiB T Q b a)))) := by
    intro a K c a0 a1
    unfold l_X8_sameCouples_17
    refine loop_int (fun b => (J (c + sumZ b (fun b => b01 (wiB T Q a b && wiB T Q b a))), J b)) a a0 (by omega) (by simp [sumZ_0]) (fun k_ b b0 b1 => ?_) (fun k_ => ?_)
    · have e1 := H.within G.2.1 X S (Int.le_refl _) a0 a1 b0 (show b < Q 0 by omega)
      have e2 := H.within G.2.1 X S (Int.le_refl _) b0 (show b < Q 0 by omega) a0 a1
      rw [sumZ_succ b0]
      cases hz : wiB T Q a b
      · rw [hz] at e1
        simp (disch := omega) only [b_X8_sameCouples_17, j_X8_sameCouples_54, rc_ok X.1, e1, lm8, lm2, lm1, l0, l1, l2, l3, l4, l5, l6, l7, l8, l9, l10, l11, l12, l13, l14, l15, l16, l17, l18, l19, l20, l21, l22, l23, l24, l25, l27, l31, l32, l40, l46, l48, l50, l57, l59, l63, l86, l96, l97, l100, l110, l114, l122, l127, l200, l255, l300, l319, l320, l340, l441, l456, l580, l600, l800, l886, l1206, l1526, J_add, J_sub, J_mul, J_neg, J_lt, J_le, J_eq, jT, jF, iT, iF, eT, eF, aT, aF, ite_true, ite_false, ite_not, bs, bI, cond_false, Bool.false_and]
        rw [show b01 false = 0 from rfl, Int.add_zero, Int.add_zero]
      · rw [hz] at e1
        simp (disch := omega) only [b_X8_sameCouples_17, j_X8_sameCouples_54, rc_ok X.1, e1, e2, lm8, lm2, lm1, l0, l1, l2, l3, l4, l5, l6, l7, l8, l9, l10, l11, l12, l13, l14, l15, l16, l17, l18, l19, l20, l21, l22, l23, l24, l25, l27, l31, l32, l40, l46, l48, l50, l57, l59, l63, l86, l96, l97, l100, l110, l114, l122, l127, l200, l255, l300, l319, l320, l340, l441, l456, l580, l600, l800, l886, l1206, l1526, J_add, J_sub, J_mul, J_neg, J_lt, J_le, J_eq, jT, jF, iT, iF, eT, eF, aT, aF, ite_true, ite_false, ite_not, bs, bI, bJ, cond_true, Bool.true_and, Int.add_assoc]
    · simp (disch := omega) only [b_X8_sameCouples_17, lm8, lm2, lm1, l0, l1, l2, l3, l4, l5, l6, l7, l8, l9, l10, l11, l12, l13, l14, l15, l16, l17, l18, l19, l20, l21, l22, l23, l24, l25, l27, l31, l32, l40, l46, l48, l50, l57, l59, l63, l86, l96, l97, l100, l110, l114, l122, l127, l200, l255, l300, l319, l320, l340, l441, l456, l580, l600, l800, l886, l1206, l1526, J_add, J_sub, J_mul, J_neg, J_lt, J_le, J_eq, jT, jF, iT, iF, eT, eF, aT, aF, ite_true, ite_false, ite_not, bs]
  unfold m_X8_sameCouples l_X8_sameCouples_5 saT
  refine loop_int (fun a => (J (sumZ a (fun a => sumZ a (fun b => b01 (wiB T Q a b && wiB T Q b a)))), J a)) (Q 0) hsz.1 (by omega) rfl (fun k_ a a0 a1 => ?_) (fun k_ => ?_)
  · have e := fun K c => inner a K c a0 a1
    rw [sumZ_succ a0]
    simp (disch := omega) only [b_X8_sameCouples_5, j_X8_sameCouples_62, G.f0, e, lm8, lm2, lm1, l0, l1, l2, l3, l4, l5, l6, l7, l8, l9, l10, l11, l12, l13, l14, l15, l16, l17, l18, l19, l20, l21, l22, l23, l24, l25, l27, l31, l32, l40, l46, l48, l50, l57, l59, l63, l86, l96, l97, l100, l110, l114, l122, l127, l200, l255, l300, l319, l320, l340, l441, l456, l580, l600, l800, l886, l1206, l1526, J_add, J_sub, J_mul, J_neg, J_lt, J_le, J_eq, jT, jF, iT, iF, eT, eF, aT, aF, ite_true, ite_false, ite_not, bs]
  · simp (disch := omega) only [b_X8_sameCouples_5, G.f0, lm8, lm2, lm1, l0, l1, l2, l3, l4, l5, l6, l7, l8, l9, l10, l11, l12, l13, l14, l15, l16, l17, l18, l19, l20, l21, l22, l23, l24, l25, l27, l31, l32, l40, l46, l48, l50, l57, l59, l63, l86, l96, l97, l100, l110, l114, l122, l127, l200, l255, l300, l319, l320, l340, l441, l456, l580, l600, l800, l886, l1206, l1526, J_add, J_sub, J_mul, J_neg, J_lt, J_le, J_eq, jT, jF, iT, iF, eT, eF, aT, aF, ite_true, ite_false, ite_not, bs]
theorem CA.heldMost (H : CA h o T) {g : Nat} (G : QA h g Q) (X : TS8 (top h) x) (S : SC h x T Q (Q 0)) : m_X8_heldMost x o g h = some (J (lgZ (Q 0) (vhT T Q))) := by
  have hsz := G.2.1.1
  unfold m_X8_heldMost l_X8_heldMost_5
  refine loop_int (fun i => (J (lgZ i (vhT T Q)), J i)) (Q 0) hsz.1 (by omega) rfl (fun k i hi hi2 => ?_) (fun k => ?_)
  · have e1 := H.versionsHeld G.2.1 X S (Int.le_refl _) hi hi2
    have r1 := vh_rg H.wf G.2.1 hi hi2
    rw [lgZ_succ hi]
    rcases lgZ_rg (f := vhT T Q) hi with hg | hg
    · rw [if_pos (Or.inl hg.2)]
      simp (disch := omega) only [b_X8_heldMost_5, j_X8_heldMost_35, j_X8_heldMost_38, G.f0, hg.2, lm8, lm2, lm1, l0, l1, l2, l3, l4, l5, l6, l7, l8, l9, l10, l11, l12, l13, l14, l15, l16, l17, l18, l19, l20, l21, l22, l23, l24, l25, l27, l31, l32, l40, l46, l48, l50, l57, l59, l63, l86, l96, l97, l100, l110, l114, l122, l127, l200, l255, l300, l319, l320, l340, l441, l456, l580, l600, l800, l886, l1206, l1526, J_add, J_sub, J_mul, J_neg, J_lt, J_le, J_eq, jT, jF, iT, iF, eT, eF, aT, aF, ite_true, ite_false, ite_not, bs]
    · have e2 := H.versionsHeld G.2.1 X S (Int.le_refl _) hg.1 (show lgZ i (vhT T Q) < Q 0 by omega)
      have r2 := vh_rg H.wf G.2.1 hg.1 (show lgZ i (vhT T Q) < Q 0 by omega)
      by_cases hc : vhT T Q (lgZ i (vhT T Q)) < vhT T Q i
      · rw [if_pos (Or.inr hc)]
        simp (disch := omega) only [b_X8_heldMost_5, j_X8_heldMost_35, j_X8_heldMost_38, G.f0, rc_ok X.1, e1, e2, lm8, lm2, lm1, l0, l1, l2, l3, l4, l5, l6, l7, l8, l9, l10, l11, l12, l13, l14, l15, l16, l17, l18, l19, l20, l21, l22, l23, l24, l25, l27, l31, l32, l40, l46, l48, l50, l57, l59, l63, l86, l96, l97, l100, l110, l114, l122, l127, l200, l255, l300, l319, l320, l340, l441, l456, l580, l600, l800, l886, l1206, l1526, J_add, J_sub, J_mul, J_neg, J_lt, J_le, J_eq, jT, jF, iT, iF, eT, eF, aT, aF, ite_true, ite_false, ite_not, bs]
      · rw [if_neg (by omega)]
        simp (disch := omega) only [b_X8_heldMost_5, j_X8_heldMost_35, j_X8_heldMost_38, G.f0, rc_ok X.1, e1, e2, lm8, lm2, lm1, l0, l1, l2, l3, l4, l5, l6, l7, l8, l9, l10, l11, l12, l13, l14, l15, l16, l17, l18, l19, l20, l21, l22, l23, l24, l25, l27, l31, l32, l40, l46, l48, l50, l57, l59, l63, l86, l96, l97, l100, l110, l114, l122, l127, l200, l255, l300, l319, l320, l340, l441, l456, l580, l600, l800, l886, l1206, l1526, J_add, J_sub, J_mul, J_neg, J_lt, J_le, J_eq, jT, jF, iT, iF, eT, eF, aT, aF, ite_true, ite_false, ite_not, bs]
  · simp (disch := omega) only [b_X8_heldMost_5, G.f0, lm8, lm2, lm1, l0, l1, l2, l3, l4, l5, l6, l7, l8, l9, l10, l11, l12, l13, l14, l15, l16, l17, l18, l19, l20, l21, l22, l23, l24, l25, l27, l31, l32, l40, l46, l48, l50, l57, l59, l63, l86, l96, l97, l100, l110, l114, l122, l127, l200, l255, l300, l319, l320, l340, l441, l456, l580, l600, l800, l886, l1206, l1526, J_add, J_sub, J_mul, J_neg, J_lt, J_le, J_eq, jT, jF, iT, iF, eT, eF, aT, aF, ite_true, ite_false, ite_not, bs]
end FC
end FO
