/-! PURE PART: hunts, the reference -/
def RU (h : Hp) (o : Nat) (U : Int → Int) : Prop := TR (top h) o ∧ HWf U ∧ ∃ q : Int, 0 ≤ q ∧ q < 8 ∧ hE h o 30 = q ∧ ∀ i, 0 ≤ i → i < 25 → hE h (o + 8) (25 * q + i) = U i
def AFt (o b k : Nat) : Prop := (b = o ∧ (k = 31 ∨ k = 32 ∨ k = 33)) ∨ b = o + 15
def frN (T U : Int → Int) : Nat → Nat
  | 0 => 0
  | n + 1 => frN T U n ||| (if fsT T U n = true then 2 ^ (fl (wfT T n)).toNat else 0)
def frT (T U : Int → Int) (n : Int) : Nat := frN T U n.toNat
def FW (h : Hp) (o : Nat) (T U : Int → Int) (k n : Int) : Prop := hE h o 31 = fcT T U n ∧ hE h o 32 = faT T U n k ∧ hE h o 33 = frT T U n ∧ ∀ s, 0 ≤ s → s < 40 → hE h (o + 15) s = seT T U n s
theorem shl_tab : ∀ c : Nat, c < 31 → ishlF (Int32.ofInt 1) (Int32.ofInt (c : Nat)) = Int32.ofInt ((2 ^ c : Nat) : Int) := by decide +kernel
section HV
variable {h : Hp} {o : Nat} {T U : Int → Int}
theorem shl_c {c : Int} (h0 : 0 ≤ c) (h1 : c < 31) : ishlF (J 1) (J c) = J ((2 ^ c.toNat : Nat) : Int) := by
  have := shl_tab c.toNat (by omega)
  rw [Int.toNat_of_nonneg h0] at this
  exact this
theorem RU.tag (G : RU h o U) : hTag h o = 12 := G.1.1
theorem RU.facts (G : RU h o U) : m_X12_facts o h = some (J (U 0)) := by
  obtain ⟨g1, g2, q, q0, q1, q2, q3⟩ := G
  have e30 : gfI h o 12 30 = some (J q) := by rw [g1.f30, q2]
  have ea : alI h (o + 8) (J (25 * q)) = some (J (U 0)) := by
    rw [alI_ok g1.a8 (by omega) (by omega) (by omega)]
    have := q3 0 (by omega) (by omega)
    rw [Int.add_zero] at this
    rw [this]
  simp only [m_X12_facts, g1.r8, e30, ea, lm8, lm2, lm1, l0, l1, l2, l3, l4, l5, l6, l7, l8, l9, l10, l11, l12, l13, l14, l15, l16, l17, l18, l19, l20, l21, l22, l23, l24, l25, l27, l31, l32, l40, l46, l48, l50, l57, l59, l63, l86, l96, l97, l100, l110, l114, l122, l127, l200, l255, l300, l319, l320, l340, l441, l456, l580, l600, l800, l886, l1206, l1526, J_add, J_sub, J_mul, J_neg, J_lt, J_le, J_eq, jT, jF, iT, iF, eT, eF, aT, aF, ite_true, ite_false, ite_not, bs]
theorem RU.factOf (G : RU h o U) {k i : Int} (h0 : 0 ≤ 3 * k + i) (h1 : 3 * k + i < 24) : m_X12_factOf o (J k) (J i) h = some (J (U (1 + 3 * k + i))) := by
  obtain ⟨g1, g2, q, q0, q1, q2, q3⟩ := G
  have e30 : gfI h o 12 30 = some (J q) := by rw [g1.f30, q2]
  have ea : alI h (o + 8) (J (25 * q + 1 + 3 * k + i)) = some (J (U (1 + 3 * k + i))) := by
    rw [alI_ok g1.a8 (by omega) (by omega) (by omega)]
    have := q3 (1 + 3 * k + i) (by omega) (by omega)
    rw [show 25 * q + (1 + 3 * k + i) = 25 * q + 1 + 3 * k + i by omega] at this
    rw [this]
  simp only [m_X12_factOf, g1.r8, e30, ea, lm8, lm2, lm1, l0, l1, l2, l3, l4, l5, l6, l7, l8, l9, l10, l11, l12, l13, l14, l15, l16, l17, l18, l19, l20, l21, l22, l23, l24, l25, l27, l31, l32, l40, l46, l48, l50, l57, l59, l63, l86, l96, l97, l100, l110, l114, l122, l127, l200, l255, l300, l319, l320, l340, l441, l456, l580, l600, l800, l886, l1206, l1526, J_add, J_sub, J_mul, J_neg, J_lt, J_le, J_eq, jT, jF, iT, iF, eT, eF, aT, aF, ite_true, ite_false, ite_not, bs]
theorem RU.frame {A : Nat → Nat → Prop} {h' : Hp} (G : RU h o U) (F : FR A h h') (n0 : ¬ A o 30) (n1 : ∀ k, ¬ A (o + 8) k) : RU h' o U := by
  obtain ⟨g1, g2, q, q0, q1, q2, q3⟩ := G
  refine ⟨by rw [F.1]; exact g1, g2, q, q0, q1, ?_, fun i i0 i1 => ?_⟩
  · rw [F.e n0, q2]
  · rw [F.e (n1 _), q3 i i0 i1]
theorem RM.frF {h' : Hp} (H : RM h o T) (F : FR (AFt o) h h') : RM h' o T := by
  refine H.frame F ?_ (fun k => ?_) <;> · unfold AFt; omega
theorem RU.frF {h' : Hp} (G : RU h o U) (F : FR (AFt o) h h') : RU h' o U := by
  refine G.frame F ?_ (fun k => ?_) <;> · unfold AFt; omega
theorem RU.frW {h' : Hp} (G : RU h o U) (F : FR (ALw o) h h') : RU h' o U := by
  refine G.frame F ?_ (fun k => ?_) <;> · unfold ALw; omega
theorem RW.frF {h' : Hp} (C : RW h o T) (F : FR (AFt o) h h') : RW h' o T := by
  refine ⟨?_, fun i i0 i1 => ?_⟩
  · rw [F.e (by unfold AFt; omega)]
    exact C.1
  · rw [F.e (by unfold AFt; omega)]
    exact C.2 i i0 i1
theorem RM.isSo (H : RM h o T) (G : RU h o U) {w : Int} (w0 : -2147483648 ≤ w) (w1 : w < 2147483648) : m_X12_isSo o (J w) h = some (J (b01 (soB T U w))) := by
  have h0 := G.2.1.1
  unfold m_X12_isSo l_X12_isSo_2 soB
  have step : ∀ (k : Int) (k_ : Int32 → Option Int32), 0 ≤ k → k < U 0 → b_X12_isSo_2 o (J w) h (fun q => k_ q) (J k) = if decide ((vbT T (U (1 + 3 * k + 1)) (U (1 + 3 * k + 2)) && decide (0 < tiT T (U (1 + 3 * k + 1)) (U (1 + 3 * k + 2)) w)) ≠ decide (U (1 + 3 * k) = 1)) = true then some (J 0) else k_ (J (k + 1)) := by
    intro k k_ k0 k1
    have hk := G.2.1.2 k k0 k1
    have p0 := G.factOf (k := k) (i := 0) (by omega) (by omega)
    have p1 := G.factOf (k := k) (i := 1) (by omega) (by omega)
    have p2 := G.factOf (k := k) (i := 2) (by omega) (by omega)
    rw [Int.add_zero] at p0
    have ev := H.isVer (d := U (1 + 3 * k + 1)) (v := U (1 + 3 * k + 2)) (by omega) (by omega) (by omega) (by omega)
    have e51 : ∀ c : Bool, j_X12_isSo_51 o (J w) (J k) (J (b01 c)) h (fun q => k_ q) = if decide (c ≠ decide (U (1 + 3 * k) = 1)) = true then some (J 0) else k_ (J (k + 1)) := by
      intro c
      rcases hk.1 with hz | hz
      · rw [hz, decide_eq_false (show ¬ (0 : Int) = 1 by omega)]
        rw [hz] at p0
        cases c
        · simp (disch := omega) only [j_X12_isSo_51, j_X12_isSo_70, rc_ok H.tag, p0, lm8, lm2, lm1, l0, l1, l2, l3, l4, l5, l6, l7, l8, l9, l10, l11, l12, l13, l14, l15, l16, l17, l18, l19, l20, l21, l22, l23, l24, l25, l27, l31, l32, l40, l46, l48, l50, l57, l59, l63, l86, l96, l97, l100, l110, l114, l122, l127, l200, l255, l300, l319, l320, l340, l441, l456, l580, l600, l800, l886, l1206, l1526, J_add, J_sub, J_mul, J_neg, J_lt, J_le, J_eq, jT, jF, iT, iF, eT, eF, aT, aF, ite_true, ite_false, ite_not, bs]
          rfl
        · simp (disch := omega) only [j_X12_isSo_51, j_X12_isSo_70, rc_ok H.tag, p0, lm8, lm2, lm1, l0, l1, l2, l3, l4, l5, l6, l7, l8, l9, l10, l11, l12, l13, l14, l15, l16, l17, l18, l19, l20, l21, l22, l23, l24, l25, l27, l31, l32, l40, l46, l48, l50, l57, l59, l63, l86, l96, l97, l100, l110, l114, l122, l127, l200, l255, l300, l319, l320, l340, l441, l456, l580, l600, l800, l886, l1206, l1526, J_add, J_sub, J_mul, J_neg, J_lt, J_le, J_eq, jT, jF, iT, iF, eT, eF, aT, aF, ite_true, ite_false, ite_not, bs]
          rfl
      · rw [hz, decide_eq_true rfl]
        rw [hz] at p0
        cases c
        · simp (disch := omega) only [j_X12_isSo_51, j_X12_isSo_70, rc_ok H.tag, p0, lm8, lm2, lm1, l0, l1, l2, l3, l4, l5, l6, l7, l8, l9, l10, l11, l12, l13, l14, l15, l16, l17, l18, l19, l20, l21, l22, l23, l24, l25, l27, l31, l32, l40, l46, l48, l50, l57, l59, l63, l86, l96, l97, l100, l110, l114, l122, l127, l200, l255, l300, l319, l320, l340, l441, l456, l580, l600, l800, l886, l1206, l1526, J_add, J_sub, J_mul, J_neg, J_lt, J_le, J_eq, jT, jF, iT, iF, eT, eF, aT, aF, ite_true, ite_false, ite_not, bs]
          rfl
        · simp (disch := omega) only [j_X12_isSo_51, j_X12_isSo_70, rc_ok H.tag, p0, lm8, lm2, lm1, l0, l1, l2, l3, l4, l5, l6, l7, l8, l9, l10, l11, l12, l13, l14, l15, l16, l17, l18, l19, l20, l21, l22, l23, l24, l25, l27, l31, l32, l40, l46, l48, l50, l57, l59, l63, l86, l96, l97, l100, l110, l114, l122, l127, l200, l255, l300, l319, l320, l340, l441, l456, l580, l600, l800, l886, l1206, l1526, J_add, J_sub, J_mul, J_neg, J_lt, J_le, J_eq, jT, jF, iT, iF, eT, eF, aT, aF, ite_true, ite_false, ite_not, bs]
          rfl
    cases hv : vbT T (U (1 + 3 * k + 1)) (U (1 + 3 * k + 2))
    · rw [hv] at ev
      have e := e51 false
      rw [show b01 false = 0 from rfl] at e
      rw [Bool.false_and]
      simp (disch := omega) only [b_X12_isSo_2, rc_ok H.tag, G.facts, p1, p2, ev, e, lm8, lm2, lm1, l0, l1, l2, l3, l4, l5, l6, l7, l8, l9, l10, l11, l12, l13, l14, l15, l16, l17, l18, l19, l20, l21, l22, l23, l24, l25, l27, l31, l32, l40, l46, l48, l50, l57, l59, l63, l86, l96, l97, l100, l110, l114, l122, l127, l200, l255, l300, l319, l320, l340, l441, l456, l580, l600, l800, l886, l1206, l1526, J_add, J_sub, J_mul, J_neg, J_lt, J_le, J_eq, jT, jF, iT, iF, eT, eF, aT, aF, ite_true, ite_false, ite_not, bs, bI, cond_false]
    · rw [hv] at ev
      have hvv := vbT_iff.mp hv
      have ht := tiT_rg H.wf hvv (w := w)
      have et := H.timesIn hvv w0 w1
      have e := e51 (decide (0 < tiT T (U (1 + 3 * k + 1)) (U (1 + 3 * k + 2)) w))
      rw [Bool.true_and]
      have ei : (if tiT T (U (1 + 3 * k + 1)) (U (1 + 3 * k + 2)) w ≤ 0 then J 0 else J 1) = J (b01 (decide (0 < tiT T (U (1 + 3 * k + 1)) (U (1 + 3 * k + 2)) w))) := by
        by_cases z : tiT T (U (1 + 3 * k + 1)) (U (1 + 3 * k + 2)) w ≤ 0
        · rw [if_pos z, decide_eq_false (by omega)]
          rfl
        · rw [if_neg z, decide_eq_true (by omega)]
          rfl
      simp (disch := omega) only [b_X12_isSo_2, rc_ok H.tag, G.facts, p1, p2, ev, et, ei, e, lm8, lm2, lm1, l0, l1, l2, l3, l4, l5, l6, l7, l8, l9, l10, l11, l12, l13, l14, l15, l16, l17, l18, l19, l20, l21, l22, l23, l24, l25, l27, l31, l32, l40, l46, l48, l50, l57, l59, l63, l86, l96, l97, l100, l110, l114, l122, l127, l200, l255, l300, l319, l320, l340, l441, l456, l580, l600, l800, l886, l1206, l1526, J_add, J_sub, J_mul, J_neg, J_lt, J_le, J_eq, jT, jF, iT, iF, eT, eF, aT, aF, ite_true, ite_false, ite_not, bs, bI, cond_true]
  refine loop_find (fun k => J k) (U 0) (fun k => decide ((vbT T (U (1 + 3 * k + 1)) (U (1 + 3 * k + 2)) && decide (0 < tiT T (U (1 + 3 * k + 1)) (U (1 + 3 * k + 2)) w)) ≠ decide (U (1 + 3 * k) = 1))) (fun k => some (J (b01 (decide (k = -1))))) h0.1 (by omega) rfl (fun k_ k k0 k1 hp => ?_) (fun k_ k k0 k1 hp => ?_) (fun k_ => ?_)
  · refine (step k k_ k0 k1).trans ?_
    rw [if_neg (by rw [hp]; decide)]
  · refine (step k k_ k0 k1).trans ?_
    rw [if_pos hp, decide_eq_false (by omega)]
    rfl
  · simp (disch := omega) only [b_X12_isSo_2, rc_ok H.tag, G.facts, lm8, lm2, lm1, l0, l1, l2, l3, l4, l5, l6, l7, l8, l9, l10, l11, l12, l13, l14, l15, l16, l17, l18, l19, l20, l21, l22, l23, l24, l25, l27, l31, l32, l40, l46, l48, l50, l57, l59, l63, l86, l96, l97, l100, l110, l114, l122, l127, l200, l255, l300, l319, l320, l340, l441, l456, l580, l600, l800, l886, l1206, l1526, J_add, J_sub, J_mul, J_neg, J_lt, J_le, J_eq, jT, jF, iT, iF, eT, eF, aT, aF, ite_true, ite_false, ite_not, bs]
    rfl
theorem fc_mono {i j : Int} (h0 : 0 ≤ i) (h1 : i ≤ j) : fcT T U i ≤ fcT T U j := by
  unfold fcT
  rw [show j = i + (j - i) by omega, sumZ_split h0 (by omega)]
  have := sumZ_nonneg (n := j - i) (c := 1) (f := fun k => b01 (fsT T U (i + k))) (by omega) (fun t _ _ => b01_rg _)
  omega
theorem fa_succ {n p : Int} (h0 : 0 ≤ n) : faT T U (n + 1) p = if fsT T U n = true ∧ fcT T U n = p then wfT T n else faT T U n p := by
  unfold faT
  rcases fiZ_spec n (fun i => fsT T U i && decide (fcT T U i = p)) with ⟨e1, e2⟩ | ⟨e1, e2, e3, e4⟩
  · rw [if_pos e1]
    by_cases hz : fsT T U n = true ∧ fcT T U n = p
    · have ef : fiZ (n + 1) (fun i => fsT T U i && decide (fcT T U i = p)) = n := fiZ_eq h0 (by omega) (by rw [hz.1, decide_eq_true hz.2]; rfl) (fun j j0 j1 => e2 j j0 j1)
      rw [ef, if_neg (by omega), if_pos hz]
    · have ef : fiZ (n + 1) (fun i => fsT T U i && decide (fcT T U i = p)) = -1 := fiZ_none (fun j j0 j1 => by
        by_cases hj : j = n
        · rw [hj]
          cases hc : (fsT T U n && decide (fcT T U n = p))
          · rfl
          · rw [Bool.and_eq_true, decide_eq_true_eq] at hc
            exact absurd hc hz
        · exact e2 j j0 (by omega))
      rw [ef, if_pos rfl, if_neg hz]
  · generalize fiZ n (fun i => fsT T U i && decide (fcT T U i = p)) = j at *
    have ef : fiZ (n + 1) (fun i => fsT T U i && decide (fcT T U i = p)) = j := fiZ_eq e1 (by omega) e3 e4
    rw [ef]
    rw [Bool.and_eq_true, decide_eq_true_eq] at e3
    have hm := fc_mono (T := T) (U := U) (i := j + 1) (j := n) (by omega) (by omega)
    rw [fc_succ e1, e3.1] at hm
    have hb : b01 true = 1 := rfl
    have hne : ¬ (fsT T U n = true ∧ fcT T U n = p) := fun q => by omega
    rw [if_neg hne]
theorem frT_succ {n : Int} (h0 : 0 ≤ n) : frT T U (n + 1) = frT T U n ||| (if fsT T U n = true then 2 ^ (fl (wfT T n)).toNat else 0) := by
  unfold frT
  rw [show (n + 1).toNat = n.toNat + 1 by omega]
  show frN T U n.toNat ||| (if fsT T U (n.toNat : Int) = true then 2 ^ (fl (wfT T (n.toNat : Int))).toNat else 0) = _
  rw [Int.toNat_of_nonneg h0]
theorem frN_lt (A : AW T) : ∀ n : Nat, (n : Int) ≤ wcT T → frN T U n < 2 ^ 27 := by
  intro n
  induction n with
  | zero => intro _; show (0 : Nat) < 2 ^ 27; decide
  | succ n ih =>
    intro hn
    show frN T U n ||| _ < 2 ^ 27
    have hl := fl_rg (wfT_wrg A (k := (n : Int)) (by omega) (by omega))
    refine Nat.or_lt_two_pow (ih (by omega)) ?_
    split
    · exact Nat.pow_lt_pow_right (by decide) (by omega)
    · decide
theorem frN_bit (A : AW T) (c : Nat) : ∀ n : Nat, (n : Int) ≤ wcT T → ((frN T U n).testBit c = true ↔ ∃ i : Nat, i < n ∧ fsT T U i = true ∧ fl (wfT T i) = c) := by
  intro n
  induction n with
  | zero =>
    intro _
    show (0 : Nat).testBit c = true ↔ _
    rw [Nat.zero_testBit]
    exact ⟨fun q => (by cases q), fun ⟨t, ht, _⟩ => absurd ht (by omega)⟩
  | succ n ih =>
    intro hn
    have hl := fl_rg (wfT_wrg A (k := (n : Int)) (by omega) (by omega))
    show (frN T U n ||| _).testBit c = true ↔ _
    rw [Nat.testBit_or, Bool.or_eq_true, ih (by omega)]
    constructor
    · rintro (⟨t, h1, h2⟩ | h)
      · exact ⟨t, by omega, h2⟩
      · by_cases hw : fsT T U (n : Int) = true
        · rw [if_pos hw, Nat.testBit_two_pow, decide_eq_true_eq] at h
          exact ⟨n, by omega, hw, by omega⟩
        · rw [if_neg hw, Nat.zero_testBit] at h
          cases h
    · rintro ⟨t, h1, h2, h3⟩
      by_cases ht : t = n
      · subst ht
        refine Or.inr ?_
        rw [if_pos h2, Nat.testBit_two_pow, decide_eq_true_eq]
        omega
      · exact Or.inl ⟨t, by omega, h2, h3⟩
theorem RM.noteFit (H : RM h o T) {k n : Int} (k0 : -2147483648 ≤ k) (k1 : k < 2147483648) (n0 : 0 ≤ n) (n1 : n < wcT T) (hf : fsT T U n = true) (S : FW h o T U k n) : ∃ h', m_X12_noteFit o (J (wfT T n)) (J k) h = some h' ∧ FR (AFt o) h h' ∧ FW h' o T U k (n + 1) := by
  have hw := wc_rg H.wf
  have hfc := fc_rg (T := T) (U := U) n0
  have hwi := wfT_wrg H.wf n0 n1
  have hw1 := hwi.1
  have hw2 := hwi.2.1
  have hwr := wide_rg hw1 hw2
  have hl := fl_rg hwi
  have hlt : frT T U n < 2 ^ 27 := frN_lt H.wf n.toNat (by omega)
  have hlt2 : frT T U (n + 1) < 2 ^ 27 := frN_lt H.wf (n + 1).toNat (by omega)
  obtain ⟨s1, s2, s3, s4⟩ := S
  have hfa : -2147483648 ≤ faT T U n k ∧ faT T U n k < 2147483648 := by
    rw [← s2]
    exact hE_rg h o 32
  have e31 : gfI h o 12 31 = some (J (fcT T U n)) := by rw [H.1.f31, s1]
  have e32 : gfI h o 12 32 = some (J (faT T U n k)) := by rw [H.1.f32, s2]
  have hfa2 : -2147483648 ≤ faT T U (n + 1) k ∧ faT T U (n + 1) k < 2147483648 := by
    rw [fa_succ n0]
    split <;> omega
  -- the three fields
  have H1 : TR (top (wE h o 32 (faT T U (n + 1) k))) o := H.1
  have H2 : TR (top (wE (wE h o 32 (faT T U (n + 1) k)) o 31 (fcT T U n + 1))) o := H.1
  have f31 : gfI (wE h o 32 (faT T U (n + 1) k)) o 12 31 = some (J (fcT T U n)) := by
    rw [H1.f31, hE_wE (by omega) (by omega) hfa2.1 hfa2.2, if_neg (by omega), s1]
  have f33 : gfI (wE (wE h o 32 (faT T U (n + 1) k)) o 31 (fcT T U n + 1)) o 12 33 = some (J (frT T U n : Nat)) := by
    rw [H2.f33, hE_wE (by omega) (by omega) (by omega) (by omega), if_neg (by omega), hE_wE (by omega) (by omega) hfa2.1 hfa2.2, if_neg (by omega), s3]
  have eor : J (frT T U n : Nat) ||| ishlF (J 1) (J (fl (wfT T n))) = J (frT T U (n + 1) : Nat) := by
    rw [shl_c (by omega) (by omega), nx_or2, frT_succ n0, if_pos hf]
  have ediv : J (wide (wfT T n)) / J 19683 = J (fl (wfT T n)) := by
    unfold fl
    exact J_div (by omega) (by omega) (by omega) (by omega)
  generalize hg : wE (wE (wE h o 32 (faT T U (n + 1) k)) o 31 (fcT T U n + 1)) o 33 (frT T U (n + 1) : Nat) = g
  have Fg : FR (AFt o) h g := by
    rw [← hg]
    exact (FR.wE (Or.inl ⟨rfl, Or.inr (Or.inl rfl)⟩)).trans ((FR.wE (Or.inl ⟨rfl, Or.inl rfl⟩)).trans (FR.wE (Or.inl ⟨rfl, Or.inr (Or.inr rfl)⟩)))
  have g31 : hE g o 31 = fcT T U (n + 1) := by
    rw [← hg, hE_wE (by omega) (by omega) (by omega) (by omega), if_neg (by omega), hE_wE (by omega) (by omega) (by omega) (by omega), if_pos ⟨rfl, rfl⟩, fc_succ n0, hf]
    rfl
  have g32 : hE g o 32 = faT T U (n + 1) k := by
    rw [← hg, hE_wE (by omega) (by omega) (by omega) (by omega), if_neg (by omega), hE_wE (by omega) (by omega) (by omega) (by omega), if_neg (by omega), hE_wE (by omega) (by omega) hfa2.1 hfa2.2, if_pos ⟨rfl, rfl⟩]
  have g33 : hE g o 33 = frT T U (n + 1) := by
    rw [← hg, hE_wE (by omega) (by omega) (by omega) (by omega), if_pos ⟨rfl, rfl⟩]
  have gs : ∀ s, 0 ≤ s → s < 40 → hE g (o + 15) s = seT T U n s := by
    intro s a b
    rw [← hg, hE_wE_ne (by omega), hE_wE_ne (by omega), hE_wE_ne (by omega)]
    exact s4 s a b
  have hp33 : ∀ z : Int, pfI (wE (wE h o 32 (faT T U (n + 1) k)) o 31 (fcT T U n + 1)) o 12 33 (J z) = some (wE (wE (wE h o 32 (faT T U (n + 1) k)) o 31 (fcT T U n + 1)) o 33 z) := fun z => H2.p33
  have hp31 : ∀ z : Int, pfI (wE h o 32 (faT T U (n + 1) k)) o 12 31 (J z) = some (wE (wE h o 32 (faT T U (n + 1) k)) o 31 z) := fun z => H1.p31
  have e17 : ∀ a : Int, a = faT T U (n + 1) k → j_X12_noteFit_17 o (J (wfT T n)) o (J a) h = l_X12_noteFit_51 o (J (wfT T n)) (J 0) g := by
    intro a ha
    rw [ha]
    have hp32 : pfI h o 12 32 (J (faT T U (n + 1) k)) = some (wE h o 32 (faT T U (n + 1) k)) := H.1.p32
    simp only [j_X12_noteFit_17, hp32, f31, hp31, f33, X12_widened_ok hwi, l19683, ediv, hp33, lm8, lm2, lm1, l0, l1, l2, l3, l4, l5, l6, l7, l8, l9, l10, l11, l12, l13, l14, l15, l16, l17, l18, l19, l20, l21, l22, l23, l24, l25, l27, l31, l32, l40, l46, l48, l50, l57, l59, l63, l86, l96, l97, l100, l110, l114, l122, l127, l200, l255, l300, l319, l320, l340, l441, l456, l580, l600, l800, l886, l1206, l1526, J_add, J_sub, J_mul, J_neg, J_lt, J_le, J_eq, jT, jF, iT, iF, eT, eF, aT, aF, ite_true, ite_false, ite_not, bs, eor]
    rw [hg]
  have Hg := H.frF Fg
  obtain ⟨s, ⟨h2, rfl, F2, q31, q32, q33, S2⟩, e⟩ := loop_ex (body := fun (k_ : Int32 × Hp → Option Hp) (s : Int32 × Hp) => b_X12_noteFit_51 o (J (wfT T n)) (fun v3q hq => k_ (v3q, hq)) s.1 s.2) (s := (J 0, g)) (fun i s => ∃ h', s = (J i, h') ∧ FR (AFt o) h h' ∧ hE h' o 31 = fcT T U (n + 1) ∧ hE h' o 32 = faT T U (n + 1) k ∧ hE h' o 33 = frT T U (n + 1) ∧ ∀ s, 0 ≤ s → s < 40 → hE h' (o + 15) s = if s < i then seT T U (n + 1) s else seT T U n s) (fun s => some s.2) 40 (by omega) (by omega) ⟨g, rfl, Fg, g31, g32, g33, fun s a b => by rw [if_neg (by omega)]; exact gs s a b⟩ (by
      rintro K1 i s i0 i1 ⟨h', rfl, F, q31, q32, q33, S⟩
      have H' := H.frF F
      have ev := H'.isVer (d := i / 10) (v := i % 10) (by omega) (by omega) (by omega) (by omega)
      have hse := se_rg (T := T) (U := U) (s := i) n0
      have hse2 := se_rg (T := T) (U := U) (n := n + 1) (s := i) (by omega)
      have ea : alI h' (o + 15) (J i) = some (J (seT T U n i)) := by rw [alI_ok H'.1.a34 i0 (by omega) (by omega), S i i0 i1, if_neg (by omega)]
      have hss : seT T U (n + 1) i = seT T U n i + b01 (vbT T (i / 10) (i % 10) && decide (0 < tiT T (i / 10) (i % 10) (wfT T n))) := by
        unfold seT
        rw [sumZ_succ n0, hf, Bool.and_true, sl_bit H.wf i0 i1]
      refine ⟨(J (i + 1), wE h' (o + 15) i (seT T U (n + 1) i)), ⟨_, rfl, F.trans (FR.wE (Or.inr rfl)), ?_, ?_, ?_, fun s a b => ?_⟩, ?_⟩
      · rw [hE_wE_ne (by omega), q31]
      · rw [hE_wE_ne (by omega), q32]
      · rw [hE_wE_ne (by omega), q33]
      · rw [hE_wE i0 a (by omega) (by omega)]
        by_cases z : s = i
        · rw [if_pos ⟨rfl, z⟩, if_pos (by omega), z]
        · rw [if_neg (fun y => z y.2), S s a b]
          by_cases z2 : s < i
          · rw [if_pos z2, if_pos (by omega)]
          · rw [if_neg z2, if_neg (by omega)]
      · show b_X12_noteFit_51 o (J (wfT T n)) (fun v3q hq => K1 (v3q, hq)) (J i) h' = _
        rw [hss]
        cases hv : vbT T (i / 10) (i % 10)
        · rw [hv] at ev
          rw [Bool.false_and]
          simp (disch := omega) only [b_X12_noteFit_51, j_X12_noteFit_103, j_X12_noteFit_104, rc_ok H'.tag, H'.1.r34, ea, J_div, J_rem, ev, asI_ok H'.1.a34, lm8, lm2, lm1, l0, l1, l2, l3, l4, l5, l6, l7, l8, l9, l10, l11, l12, l13, l14, l15, l16, l17, l18, l19, l20, l21, l22, l23, l24, l25, l27, l31, l32, l40, l46, l48, l50, l57, l59, l63, l86, l96, l97, l100, l110, l114, l122, l127, l200, l255, l300, l319, l320, l340, l441, l456, l580, l600, l800, l886, l1206, l1526, J_add, J_sub, J_mul, J_neg, J_lt, J_le, J_eq, jT, jF, iT, iF, eT, eF, aT, aF, ite_true, ite_false, ite_not, bs, bI, cond_false]
          rfl
        · rw [hv] at ev
          have hvv := vbT_iff.mp hv
          have ht := tiT_rg H.wf hvv (w := wfT T n)
          have et := H'.timesIn hvv (w := wfT T n) (by omega) (by omega)
          rw [Bool.true_and]
          by_cases hz : 0 < tiT T (i / 10) (i % 10) (wfT T n)
          · rw [decide_eq_true hz]
            simp (disch := omega) only [b_X12_noteFit_51, j_X12_noteFit_103, j_X12_noteFit_104, rc_ok H'.tag, H'.1.r34, ea, J_div, J_rem, ev, et, asI_ok H'.1.a34, lm8, lm2, lm1, l0, l1, l2, l3, l4, l5, l6, l7, l8, l9, l10, l11, l12, l13, l14, l15, l16, l17, l18, l19, l20, l21, l22, l23, l24, l25, l27, l31, l32, l40, l46, l48, l50, l57, l59, l63, l86, l96, l97, l100, l110, l114, l122, l127, l200, l255, l300, l319, l320, l340, l441, l456, l580, l600, l800, l886, l1206, l1526, J_add, J_sub, J_mul, J_neg, J_lt, J_le, J_eq, jT, jF, iT, iF, eT, eF, aT, aF, ite_true, ite_false, ite_not, bs, bI, cond_true]
            rfl
          · rw [decide_eq_false hz]
            simp (disch := omega) only [b_X12_noteFit_51, j_X12_noteFit_103, j_X12_noteFit_104, rc_ok H'.tag, H'.1.r34, ea, J_div, J_rem, ev, et, asI_ok H'.1.a34, lm8, lm2, lm1, l0, l1, l2, l3, l4, l5, l6, l7, l8, l9, l10, l11, l12, l13, l14, l15, l16, l17, l18, l19, l20, l21, l22, l23, l24, l25, l27, l31, l32, l40, l46, l48, l50, l57, l59, l63, l86, l96, l97, l100, l110, l114, l122, l127, l200, l255, l300, l319, l320, l340, l441, l456, l580, l600, l800, l886, l1206, l1526, J_add, J_sub, J_mul, J_neg, J_lt, J_le, J_eq, jT, jF, iT, iF, eT, eF, aT, aF, ite_true, ite_false, ite_not, bs, bI, cond_true]
            rfl) (by
      rintro K1 s ⟨h', rfl, -⟩
      show b_X12_noteFit_51 o (J (wfT T n)) (fun v3q hq => K1 (v3q, hq)) (J 40) h' = _
      simp (disch := omega) only [b_X12_noteFit_51, lm8, lm2, lm1, l0, l1, l2, l3, l4, l5, l6, l7, l8, l9, l10, l11, l12, l13, l14, l15, l16, l17, l18, l19, l20, l21, l22, l23, l24, l25, l27, l31, l32, l40, l46, l48, l50, l57, l59, l63, l86, l96, l97, l100, l110, l114, l122, l127, l200, l255, l300, l319, l320, l340, l441, l456, l580, l600, l800, l886, l1206, l1526, J_add, J_sub, J_mul, J_neg, J_lt, J_le, J_eq, jT, jF, iT, iF, eT, eF, aT, aF, ite_true, ite_false, ite_not, bs])
  refine ⟨h2, ?_, F2, q31, q32, q33, fun s a b => by rw [S2 s a b, if_pos b]⟩
  have hfs := fa_succ (T := T) (U := U) (n := n) (p := k) n0
  by_cases hz : fcT T U n = k
  · rw [if_pos ⟨hf, hz⟩] at hfs
    have e2 := e17 (wfT T n) hfs.symm
    have : m_X12_noteFit o (J (wfT T n)) (J k) h = j_X12_noteFit_17 o (J (wfT T n)) o (J (wfT T n)) h := by
      simp (disch := omega) only [m_X12_noteFit, e31, lm8, lm2, lm1, l0, l1, l2, l3, l4, l5, l6, l7, l8, l9, l10, l11, l12, l13, l14, l15, l16, l17, l18, l19, l20, l21, l22, l23, l24, l25, l27, l31, l32, l40, l46, l48, l50, l57, l59, l63, l86, l96, l97, l100, l110, l114, l122, l127, l200, l255, l300, l319, l320, l340, l441, l456, l580, l600, l800, l886, l1206, l1526, J_add, J_sub, J_mul, J_neg, J_lt, J_le, J_eq, jT, jF, iT, iF, eT, eF, aT, aF, ite_true, ite_false, ite_not, bs]
    rw [this, e2]
    exact e
  · rw [if_neg (fun q => hz q.2)] at hfs
    have e2 := e17 (faT T U n k) hfs.symm
    have : m_X12_noteFit o (J (wfT T n)) (J k) h = j_X12_noteFit_17 o (J (wfT T n)) o (J (faT T U n k)) h := by
      simp (disch := omega) only [m_X12_noteFit, e31, e32, lm8, lm2, lm1, l0, l1, l2, l3, l4, l5, l6, l7, l8, l9, l10, l11, l12, l13, l14, l15, l16, l17, l18, l19, l20, l21, l22, l23, l24, l25, l27, l31, l32, l40, l46, l48, l50, l57, l59, l63, l86, l96, l97, l100, l110, l114, l122, l127, l200, l255, l300, l319, l320, l340, l441, l456, l580, l600, l800, l886, l1206, l1526, J_add, J_sub, J_mul, J_neg, J_lt, J_le, J_eq, jT, jF, iT, iF, eT, eF, aT, aF, ite_true, ite_false, ite_not, bs]
    rw [this, e2]
    exact e
theorem FW.skip {k n : Int} (n0 : 0 ≤ n) (hf : fsT T U n = false) (S : FW h o T U k n) : FW h o T U k (n + 1) := by
  obtain ⟨s1, s2, s3, s4⟩ := S
  refine ⟨?_, ?_, ?_, fun s a b => ?_⟩
  · rw [fc_succ n0, hf, s1]
    exact (Int.add_zero _).symm
  · rw [fa_succ n0, if_neg (fun q => by rw [hf] at q; cases q.1), s2]
  · rw [frT_succ n0, if_neg (by rw [hf]; decide), Nat.or_zero, s3]
  · rw [s4 s a b]
    unfold seT
    rw [sumZ_succ n0, hf, Bool.and_false]
    exact (Int.add_zero _).symm
def AFw (o b k : Nat) : Prop := AFt o b k ∨ ALw o b k
theorem RM.findWords (H : RM h o T) (G : RU h o U) {k : Int} (k0 : -2147483648 ≤ k) (k1 : k < 2147483648) : ∃ h', m_X12_findWords o (J k) h = some h' ∧ FR (AFw o) h h' ∧ FW h' o T U k (wcT T) := by
  have hw := wc_rg H.wf
  have H1 : TR (top (wE h o 31 0)) o := H.1
  have H2 : TR (top (wE (wE h o 31 0) o 32 (-2))) o := H.1
  have p31 : pfI h o 12 31 (J 0) = some (wE h o 31 0) := H.1.p31
  have p32 : pfI (wE h o 31 0) o 12 32 (J (-2)) = some (wE (wE h o 31 0) o 32 (-2)) := H1.p32
  have p33 : pfI (wE (wE h o 31 0) o 32 (-2)) o 12 33 (J 0) = some (wE (wE (wE h o 31 0) o 32 (-2)) o 33 0) := H2.p33
  generalize hg : wE (wE (wE h o 31 0) o 32 (-2)) o 33 0 = g at p33
  have Fg : FR (AFt o) h g := by
    rw [← hg]
    exact (FR.wE (Or.inl ⟨rfl, Or.inl rfl⟩)).trans ((FR.wE (Or.inl ⟨rfl, Or.inr (Or.inl rfl)⟩)).trans (FR.wE (Or.inl ⟨rfl, Or.inr (Or.inr rfl)⟩)))
  have g31 : hE g o 31 = 0 := by
    rw [← hg, hE_wE (by omega) (by omega) (by omega) (by omega), if_neg (by omega), hE_wE (by omega) (by omega) (by omega) (by omega), if_neg (by omega), hE_wE (by omega) (by omega) (by omega) (by omega), if_pos ⟨rfl, rfl⟩]
  have g32 : hE g o 32 = -2 := by
    rw [← hg, hE_wE (by omega) (by omega) (by omega) (by omega), if_neg (by omega), hE_wE (by omega) (by omega) (by omega) (by omega), if_pos ⟨rfl, rfl⟩]
  have g33 : hE g o 33 = 0 := by
    rw [← hg, hE_wE (by omega) (by omega) (by omega) (by omega), if_pos ⟨rfl, rfl⟩]
  unfold m_X12_findWords
  rw [l0, lm2, p31, bs, p32, bs, p33, bs]
  -- zeros
  obtain ⟨s, ⟨h1, rfl, F1, S1, z31, z32, z33⟩, e1⟩ := loop_ex (body := fun (k_ : Int32 × Hp → Option Hp) (s : Int32 × Hp) => b_X12_findWords_18 o (J k) (fun hz1 => j_X12_findWords_37 o (J k) hz1) (fun v2q hq => k_ (v2q, hq)) s.1 s.2) (s := (J 0, g)) (fun i s => ∃ h', s = (J i, h') ∧ FR (AFt o) h h' ∧ (∀ s, 0 ≤ s → s < i → hE h' (o + 15) s = 0) ∧ hE h' o 31 = 0 ∧ hE h' o 32 = -2 ∧ hE h' o 33 = 0) (fun s => j_X12_findWords_37 o (J k) s.2) 40 (by omega) (by omega) ⟨g, rfl, Fg, fun s a b => by omega, g31, g32, g33⟩ (by
      rintro K1 i s i0 i1 ⟨h', rfl, F, S, z31, z32, z33⟩
      have H' := H.frF F
      refine ⟨(J (i + 1), wE h' (o + 15) i 0), ⟨_, rfl, F.trans (FR.wE (Or.inr rfl)), fun s a b => ?_, ?_, ?_, ?_⟩, ?_⟩
      · rw [hE_wE i0 a (by omega) (by omega)]
        by_cases z : s = i
        · rw [if_pos ⟨rfl, z⟩]
        · rw [if_neg (fun y => z y.2)]
          exact S s a (by omega)
      · rw [hE_wE_ne (by omega), z31]
      · rw [hE_wE_ne (by omega), z32]
      · rw [hE_wE_ne (by omega), z33]
      · show b_X12_findWords_18 o (J k) _ (fun v2q hq => K1 (v2q, hq)) (J i) h' = _
        simp (disch := omega) only [b_X12_findWords_18, H'.1.r34, asI_ok H'.1.a34, lm8, lm2, lm1, l0, l1, l2, l3, l4, l5, l6, l7, l8, l9, l10, l11, l12, l13, l14, l15, l16, l17, l18, l19, l20, l21, l22, l23, l24, l25, l27, l31, l32, l40, l46, l48, l50, l57, l59, l63, l86, l96, l97, l100, l110, l114, l122, l127, l200, l255, l300, l319, l320, l340, l441, l456, l580, l600, l800, l886, l1206, l1526, J_add, J_sub, J_mul, J_neg, J_lt, J_le, J_eq, jT, jF, iT, iF, eT, eF, aT, aF, ite_true, ite_false, ite_not, bs]) (by
      rintro K1 s ⟨h', rfl, -⟩
      show b_X12_findWords_18 o (J k) _ (fun v2q hq => K1 (v2q, hq)) (J 40) h' = _
      simp (disch := omega) only [b_X12_findWords_18, lm8, lm2, lm1, l0, l1, l2, l3, l4, l5, l6, l7, l8, l9, l10, l11, l12, l13, l14, l15, l16, l17, l18, l19, l20, l21, l22, l23, l24, l25, l27, l31, l32, l40, l46, l48, l50, l57, l59, l63, l86, l96, l97, l100, l110, l114, l122, l127, l200, l255, l300, l319, l320, l340, l441, l456, l580, l600, l800, l886, l1206, l1526, J_add, J_sub, J_mul, J_neg, J_lt, J_le, J_eq, jT, jF, iT, iF, eT, eF, aT, aF, ite_true, ite_false, ite_not, bs])
  have R1 := H.frF F1
  have U1 := G.frF F1
  obtain ⟨h2, e2, F2, C2⟩ := R1.layWords
  have R2 := R1.frW F2
  have U2 := U1.frW F2
  have S0 : FW h2 o T U k 0 := by
    refine ⟨?_, ?_, ?_, fun s a b => ?_⟩
    · rw [F2.e (by unfold ALw; omega), z31]
      rfl
    · rw [F2.e (by unfold ALw; omega), z32]
      rfl
    · rw [F2.e (by unfold ALw; omega), z33]
      rfl
    · rw [F2.e (by unfold ALw; omega), S1 s a b]
      rfl
  have F12 : FR (AFw o) h h2 := (F1.mono (fun b k q => Or.inl q)).trans (F2.mono (fun b k q => Or.inr q))
  -- the words
  obtain ⟨s, ⟨h3, rfl, F3, S3⟩, e3⟩ := loop_ex (body := fun (k_ : Int32 × Hp → Option Hp) (s : Int32 × Hp) => b_X12_findWords_43 o (J k) (fun v2q hq => k_ (v2q, hq)) s.1 s.2) (s := (J 0, h2)) (fun i s => ∃ h', s = (J i, h') ∧ FR (AFt o) h2 h' ∧ FW h' o T U k i) (fun s => some s.2) (wcT T) hw.1 (by omega) ⟨h2, rfl, FR.refl _ _, S0⟩ (by
      rintro K1 i s i0 i1 ⟨h', rfl, F, S⟩
      have R' := R2.frF F
      have U' := U2.frF F
      have C' := C2.frF F
      have hwi := wfT_wrg H.wf i0 i1
      have hw1 := hwi.1
      have hw2 := hwi.2.1
      have e25 : gfI h' o 12 25 = some (J (wcT T)) := by rw [R'.1.f25, C'.1]; rfl
      have ea : alI h' (o + 12) (J i) = some (J (wfT T i)) := by rw [alI_ok R'.1.a26 i0 (by omega) (by omega), C'.2 i i0 i1]; rfl
      have es : m_X12_isSo o (J (wfT T i)) h' = some (J (b01 (fsT T U i))) := R'.isSo U' (by omega) (by omega)
      cases hf : fsT T U i
      · rw [hf] at es
        refine ⟨(J (i + 1), h'), ⟨h', rfl, F, FW.skip i0 hf S⟩, ?_⟩
        show b_X12_findWords_43 o (J k) (fun v2q hq => K1 (v2q, hq)) (J i) h' = _
        simp (disch := omega) only [b_X12_findWords_43, j_X12_findWords_75, rc_ok R'.tag, e25, R'.1.r26, ea, es, lm8, lm2, lm1, l0, l1, l2, l3, l4, l5, l6, l7, l8, l9, l10, l11, l12, l13, l14, l15, l16, l17, l18, l19, l20, l21, l22, l23, l24, l25, l27, l31, l32, l40, l46, l48, l50, l57, l59, l63, l86, l96, l97, l100, l110, l114, l122, l127, l200, l255, l300, l319, l320, l340, l441, l456, l580, l600, l800, l886, l1206, l1526, J_add, J_sub, J_mul, J_neg, J_lt, J_le, J_eq, jT, jF, iT, iF, eT, eF, aT, aF, ite_true, ite_false, ite_not, bs, bI, cond_false]
      · rw [hf] at es
        obtain ⟨h4, e4, F4, S4⟩ := R'.noteFit k0 k1 i0 i1 hf S
        refine ⟨(J (i + 1), h4), ⟨h4, rfl, F.trans F4, S4⟩, ?_⟩
        show b_X12_findWords_43 o (J k) (fun v2q hq => K1 (v2q, hq)) (J i) h' = _
        simp (disch := omega) only [b_X12_findWords_43, j_X12_findWords_75, rc_ok R'.tag, e25, R'.1.r26, ea, es, e4, lm8, lm2, lm1, l0, l1, l2, l3, l4, l5, l6, l7, l8, l9, l10, l11, l12, l13, l14, l15, l16, l17, l18, l19, l20, l21, l22, l23, l24, l25, l27, l31, l32, l40, l46, l48, l50, l57, l59, l63, l86, l96, l97, l100, l110, l114, l122, l127, l200, l255, l300, l319, l320, l340, l441, l456, l580, l600, l800, l886, l1206, l1526, J_add, J_sub, J_mul, J_neg, J_lt, J_le, J_eq, jT, jF, iT, iF, eT, eF, aT, aF, ite_true, ite_false, ite_not, bs, bI, cond_true]) (by
      rintro K1 s ⟨h', rfl, F, -⟩
      have R' := R2.frF F
      have C' := C2.frF F
      have e25 : gfI h' o 12 25 = some (J (wcT T)) := by rw [R'.1.f25, C'.1]; rfl
      show b_X12_findWords_43 o (J k) (fun v2q hq => K1 (v2q, hq)) (J (wcT T)) h' = _
      simp (disch := omega) only [b_X12_findWords_43, e25, lm8, lm2, lm1, l0, l1, l2, l3, l4, l5, l6, l7, l8, l9, l10, l11, l12, l13, l14, l15, l16, l17, l18, l19, l20, l21, l22, l23, l24, l25, l27, l31, l32, l40, l46, l48, l50, l57, l59, l63, l86, l96, l97, l100, l110, l114, l122, l127, l200, l255, l300, l319, l320, l340, l441, l456, l580, l600, l800, l886, l1206, l1526, J_add, J_sub, J_mul, J_neg, J_lt, J_le, J_eq, jT, jF, iT, iF, eT, eF, aT, aF, ite_true, ite_false, ite_not, bs])
  refine ⟨h3, ?_, F12.trans (F3.mono (fun b k q => Or.inl q)), S3⟩
  unfold l_X12_findWords_18
  refine e1.trans ?_
  show j_X12_findWords_37 o (J k) h1 = _
  unfold j_X12_findWords_37
  rw [rc_ok R1.tag, e2, bs]
  exact e3
theorem su_eq (A : AW T) : (if fiZ 26 (fun i => decide (frT T U (wcT T) = 2 ^ (i + 1).toNat)) = -1 then -1 else fiZ 26 (fun i => decide (frT T U (wcT T) = 2 ^ (i + 1).toNat)) + 1) = suT T U := by
  have hw := wc_rg A
  have hbit := fun c => frN_bit (U := U) A c (wcT T).toNat (by omega)
  have hall : ∀ c : Int, 0 ≤ c → frT T U (wcT T) = 2 ^ c.toNat → ∀ i, 0 ≤ i → i < wcT T → fsT T U i = true → fl (wfT T i) = c := by
    intro c c0 hc i i0 i1 hf
    have hl := fl_rg (wfT_wrg A i0 i1)
    have hin : ((i.toNat : Nat) : Int) = i := Int.toNat_of_nonneg i0
    have hb : (frT T U (wcT T)).testBit (fl (wfT T i)).toNat = true := (hbit _).mpr ⟨i.toNat, by omega, by rw [hin]; exact hf, by rw [hin]; omega⟩
    rw [hc, Nat.testBit_two_pow, decide_eq_true_eq] at hb
    omega
  unfold suT dlT
  rcases fiZ_spec (wcT T) (fun i => fsT T U i && decide (0 ≤ ffT T U i ∧ fl (wfT T i) ≠ fl (wfT T (ffT T U i)))) with ⟨d1, d2⟩ | ⟨d1, d2, d3, d4⟩
  · rw [if_pos d1]
    have hffd : ffT T U (wcT T) = fiZ (wcT T) (fun i => fsT T U i) := rfl
    rcases fiZ_spec (wcT T) (fun i => fsT T U i) with ⟨f1, f2⟩ | ⟨f1, f2, f3, f4⟩
    · rw [hffd, if_pos f1]
      have hz : frT T U (wcT T) = 0 := by
        refine Nat.eq_of_testBit_eq (fun c => ?_)
        rw [Nat.zero_testBit]
        cases hb : (frT T U (wcT T)).testBit c
        · rfl
        · obtain ⟨i, i1, i2, _⟩ := (hbit c).mp hb
          rw [f2 i (by omega) (by omega)] at i2
          cases i2
      have : fiZ 26 (fun i => decide (frT T U (wcT T) = 2 ^ (i + 1).toNat)) = -1 := fiZ_none (fun i _ _ => by
        rw [hz]
        exact decide_eq_false (Nat.ne_of_lt (Nat.two_pow_pos _)))
      rw [this]
      rfl
    · rw [← hffd] at f1 f2 f3 f4
      rw [if_neg (show ¬ ffT T U (wcT T) = -1 by omega)]
      have hl := fl_rg (wfT_wrg A f1 f2)
      have hsame : ∀ i, 0 ≤ i → i < wcT T → fsT T U i = true → fl (wfT T i) = fl (wfT T (ffT T U (wcT T))) := by
        intro i i0 i1 hf
        have := d2 i i0 i1
        rw [hf, Bool.true_and, decide_eq_false_iff_not] at this
        have hff : ffT T U i = if i ≤ ffT T U (wcT T) then -1 else ffT T U (wcT T) := by
          by_cases hc : i ≤ ffT T U (wcT T)
          · rw [if_pos hc]
            exact fiZ_none (fun j j0 j1 => f4 j j0 (by omega))
          · rw [if_neg hc]
            exact fiZ_eq f1 (by omega) f3 f4
        by_cases hc : i ≤ ffT T U (wcT T)
        · have : i = ffT T U (wcT T) := by
            by_cases hlt : i < ffT T U (wcT T)
            · rw [f4 i i0 hlt] at hf
              cases hf
            · omega
          rw [← this]
        · rw [if_neg hc] at hff
          rw [hff] at this
          exact Classical.byContradiction (fun q => this ⟨f1, q⟩)
      have hF : frT T U (wcT T) = 2 ^ (fl (wfT T (ffT T U (wcT T)))).toNat := by
        refine Nat.eq_of_testBit_eq (fun c => ?_)
        rw [Nat.testBit_two_pow]
        cases hb : (frT T U (wcT T)).testBit c
        · refine (decide_eq_false (fun q => ?_)).symm
          have hin : (((ffT T U (wcT T)).toNat : Nat) : Int) = ffT T U (wcT T) := Int.toNat_of_nonneg f1
          have : (frT T U (wcT T)).testBit c = true := (hbit c).mpr ⟨(ffT T U (wcT T)).toNat, by omega, by rw [hin]; exact f3, by rw [hin]; omega⟩
          rw [hb] at this
          cases this
        · obtain ⟨i, i1, i2, i3⟩ := (hbit c).mp hb
          have := hsame i (by omega) (by omega) i2
          exact (decide_eq_true (by omega)).symm
      have hfi : fiZ 26 (fun i => decide (frT T U (wcT T) = 2 ^ (i + 1).toNat)) = fl (wfT T (ffT T U (wcT T))) - 1 := by
        refine fiZ_eq (by omega) (by omega) ?_ (fun j j0 j1 => ?_)
        · rw [show fl (wfT T (ffT T U (wcT T))) - 1 + 1 = fl (wfT T (ffT T U (wcT T))) by omega]
          exact decide_eq_true hF
        · refine decide_eq_false (fun q => ?_)
          have := hall (j + 1) (by omega) q _ f1 f2 f3
          omega
      rw [hfi, if_neg (by omega)]
      omega
  · skip
    generalize fiZ (wcT T) (fun i => fsT T U i && decide (0 ≤ ffT T U i ∧ fl (wfT T i) ≠ fl (wfT T (ffT T U i)))) = i at *
    rw [Bool.and_eq_true, decide_eq_true_eq] at d3
    have hrg := ff_rg (T := T) (U := U) (i := i)
    have hfj : fsT T U (ffT T U i) = true := by
      unfold ffT at d3 hrg ⊢
      rcases fiZ_spec i (fun i => fsT T U i) with ⟨f1, _⟩ | ⟨_, _, f3, _⟩
      · omega
      · exact f3
    have : fiZ 26 (fun i => decide (frT T U (wcT T) = 2 ^ (i + 1).toNat)) = -1 := fiZ_none (fun c c0 c1 => decide_eq_false (fun q => by
      have h1 := hall (c + 1) (by omega) q i d1 d2 d3.1
      have h2 := hall (c + 1) (by omega) q (ffT T U i) d3.2.1 (by omega) hfj
      exact d3.2.2 (h1.trans h2.symm)))
    rw [this]
    rw [if_pos rfl, if_neg (show ¬ i = -1 by omega)]
theorem RM.sureLetter (H : RM h o T) {k : Int} (S : FW h o T U k (wcT T)) : m_X12_sureLetter o h = some (J (suT T U)) := by
  have hw := wc_rg H.wf
  rw [← su_eq H.wf]
  have hlt : frT T U (wcT T) < 2 ^ 27 := frN_lt H.wf (wcT T).toNat (by omega)
  have e33 : gfI h o 12 33 = some (J (frT T U (wcT T) : Nat)) := by rw [H.1.f33, S.2.2.1]
  unfold m_X12_sureLetter l_X12_sureLetter_2
  refine loop_find (fun i => J (i + 1)) 26 (fun i => decide (frT T U (wcT T) = 2 ^ (i + 1).toNat)) (fun i => some (J (if i = -1 then -1 else i + 1))) (by omega) (by omega) rfl (fun k_ i hi hi2 hp => ?_) (fun k_ i hi hi2 hp => ?_) (fun k_ => ?_)
  · have hs := shl_c (c := i + 1) (by omega) (by omega)
    have hp2 : ¬ frT T U (wcT T) = 2 ^ (i + 1).toNat := by simpa using hp
    have hb : 2 ^ (i + 1).toNat < 2 ^ 30 := Nat.pow_lt_pow_right (by decide) (by omega)
    generalize 2 ^ (i + 1).toNat = y at *
    simp (disch := omega) only [b_X12_sureLetter_2, e33, hs, lm8, lm2, lm1, l0, l1, l2, l3, l4, l5, l6, l7, l8, l9, l10, l11, l12, l13, l14, l15, l16, l17, l18, l19, l20, l21, l22, l23, l24, l25, l27, l31, l32, l40, l46, l48, l50, l57, l59, l63, l86, l96, l97, l100, l110, l114, l122, l127, l200, l255, l300, l319, l320, l340, l441, l456, l580, l600, l800, l886, l1206, l1526, J_add, J_sub, J_mul, J_neg, J_lt, J_le, J_eq, jT, jF, iT, iF, eT, eF, aT, aF, ite_true, ite_false, ite_not, bs]
  · have hs := shl_c (c := i + 1) (by omega) (by omega)
    have hp2 : frT T U (wcT T) = 2 ^ (i + 1).toNat := by simpa using hp
    rw [if_neg (by omega)]
    rw [← hp2] at hs
    simp (disch := omega) only [b_X12_sureLetter_2, e33, hs, lm8, lm2, lm1, l0, l1, l2, l3, l4, l5, l6, l7, l8, l9, l10, l11, l12, l13, l14, l15, l16, l17, l18, l19, l20, l21, l22, l23, l24, l25, l27, l31, l32, l40, l46, l48, l50, l57, l59, l63, l86, l96, l97, l100, l110, l114, l122, l127, l200, l255, l300, l319, l320, l340, l441, l456, l580, l600, l800, l886, l1206, l1526, J_add, J_sub, J_mul, J_neg, J_lt, J_le, J_eq, jT, jF, iT, iF, eT, eF, aT, aF, ite_true, ite_false, ite_not, bs]
  · rw [if_pos rfl]
    show b_X12_sureLetter_2 o h _ (J (26 + 1)) = _
    simp (disch := omega) only [b_X12_sureLetter_2, lm8, lm2, lm1, l0, l1, l2, l3, l4, l5, l6, l7, l8, l9, l10, l11, l12, l13, l14, l15, l16, l17, l18, l19, l20, l21, l22, l23, l24, l25, l27, l31, l32, l40, l46, l48, l50, l57, l59, l63, l86, l96, l97, l100, l110, l114, l122, l127, l200, l255, l300, l319, l320, l340, l441, l456, l580, l600, l800, l886, l1206, l1526, J_add, J_sub, J_mul, J_neg, J_lt, J_le, J_eq, jT, jF, iT, iF, eT, eF, aT, aF, ite_true, ite_false, ite_not, bs]
theorem RM.askWhere (H : RM h o T) {k : Int} (S : FW h o T U k (wcT T)) : m_X12_askWhere o h = some (J (if fcT T U (wcT T) = 0 then -1 else (akZ T U 40).1)) := by
  have hw := wc_rg H.wf
  have hfc := fc_rg (T := T) (U := U) hw.1
  have e31 : gfI h o 12 31 = some (J (fcT T U (wcT T))) := by rw [H.1.f31, S.1]
  unfold m_X12_askWhere l_X12_askWhere_8
  by_cases hz : fcT T U (wcT T) = 0
  · rw [if_pos hz]
    refine loop_int (fun i => (J (-1), J 1000000, J i)) 0 (by omega) (by omega) rfl (fun k_ i hi hi2 => by omega) (fun k_ => ?_)
    simp (disch := omega) only [b_X12_askWhere_8, e31, lm8, lm2, lm1, l0, l1, l2, l3, l4, l5, l6, l7, l8, l9, l10, l11, l12, l13, l14, l15, l16, l17, l18, l19, l20, l21, l22, l23, l24, l25, l27, l31, l32, l40, l46, l48, l50, l57, l59, l63, l86, l96, l97, l100, l110, l114, l122, l127, l200, l255, l300, l319, l320, l340, l441, l456, l580, l600, l800, l886, l1206, l1526, J_add, J_sub, J_mul, J_neg, J_lt, J_le, J_eq, jT, jF, iT, iF, eT, eF, aT, aF, ite_true, ite_false, ite_not, bs]
  · rw [if_neg hz]
    refine loop_int (fun i => (J (akZ T U i).1, J (akZ T U i).2, J i)) 40 (by omega) (by omega) rfl (fun k_ i hi hi2 => ?_) (fun k_ => ?_)
    · have ev := H.isVer (d := i / 10) (v := i % 10) (by omega) (by omega) (by omega) (by omega)
      have hse := se_rg (T := T) (U := U) (s := i) hw.1
      have hg := gn_rg H.wf (U := U) (s := i)
      have hak : akZ T U i = (-1, 1000000) ∨ (0 ≤ (akZ T U i).1 ∧ (akZ T U i).1 < 40 ∧ 0 ≤ (akZ T U i).2 ∧ (akZ T U i).2 ≤ 319) := ak_rg H.wf i.toNat (by omega)
      have ea : alI h (o + 15) (J i) = some (J (seT T U (wcT T) i)) := by rw [alI_ok H.1.a34 hi (by omega) (by omega), S.2.2.2 i hi hi2]
      have em : m_X12_greater (J (seT T U (wcT T) i)) (J (fcT T U (wcT T) - seT T U (wcT T) i)) h = some (J (gnT T U i)) := X12_greater_ok (by omega) (by omega) (by omega) (by omega)
      have hak2 : 0 ≤ (akZ T U i).2 ∧ (akZ T U i).2 ≤ 1000000 := by
        rcases hak with hak | hak
        · rw [hak]
          dsimp only
          omega
        · omega
      rw [akZ_succ hi]
      generalize akZ T U i = ak at *
      cases hv : vbT T (i / 10) (i % 10)
      · rw [hv] at ev
        have e1 : (if (false = true ∧ gnT T U i < ak.2) then (i, gnT T U i) else ak) = ak := if_neg (fun q => by cases q.1)
        rw [e1]
        simp (disch := omega) only [b_X12_askWhere_8, j_X12_askWhere_69, e31, H.1.r34, ea, em, rc_ok H.tag, J_div, J_rem, ev, lm8, lm2, lm1, l0, l1, l2, l3, l4, l5, l6, l7, l8, l9, l10, l11, l12, l13, l14, l15, l16, l17, l18, l19, l20, l21, l22, l23, l24, l25, l27, l31, l32, l40, l46, l48, l50, l57, l59, l63, l86, l96, l97, l100, l110, l114, l122, l127, l200, l255, l300, l319, l320, l340, l441, l456, l580, l600, l800, l886, l1206, l1526, J_add, J_sub, J_mul, J_neg, J_lt, J_le, J_eq, jT, jF, iT, iF, eT, eF, aT, aF, ite_true, ite_false, ite_not, bs, bI, cond_false]
      · rw [hv] at ev
        by_cases hlt : gnT T U i < ak.2
        · have e1 : (if (true = true ∧ gnT T U i < ak.2) then (i, gnT T U i) else ak) = (i, gnT T U i) := if_pos ⟨rfl, hlt⟩
          rw [e1]
          simp (disch := omega) only [b_X12_askWhere_8, j_X12_askWhere_69, e31, H.1.r34, ea, em, rc_ok H.tag, J_div, J_rem, ev, lm8, lm2, lm1, l0, l1, l2, l3, l4, l5, l6, l7, l8, l9, l10, l11, l12, l13, l14, l15, l16, l17, l18, l19, l20, l21, l22, l23, l24, l25, l27, l31, l32, l40, l46, l48, l50, l57, l59, l63, l86, l96, l97, l100, l110, l114, l122, l127, l200, l255, l300, l319, l320, l340, l441, l456, l580, l600, l800, l886, l1206, l1526, J_add, J_sub, J_mul, J_neg, J_lt, J_le, J_eq, jT, jF, iT, iF, eT, eF, aT, aF, ite_true, ite_false, ite_not, bs, bI, cond_true]
        · have e1 : (if (true = true ∧ gnT T U i < ak.2) then (i, gnT T U i) else ak) = ak := if_neg (fun q => hlt q.2)
          rw [e1]
          simp (disch := omega) only [b_X12_askWhere_8, j_X12_askWhere_69, e31, H.1.r34, ea, em, rc_ok H.tag, J_div, J_rem, ev, lm8, lm2, lm1, l0, l1, l2, l3, l4, l5, l6, l7, l8, l9, l10, l11, l12, l13, l14, l15, l16, l17, l18, l19, l20, l21, l22, l23, l24, l25, l27, l31, l32, l40, l46, l48, l50, l57, l59, l63, l86, l96, l97, l100, l110, l114, l122, l127, l200, l255, l300, l319, l320, l340, l441, l456, l580, l600, l800, l886, l1206, l1526, J_add, J_sub, J_mul, J_neg, J_lt, J_le, J_eq, jT, jF, iT, iF, eT, eF, aT, aF, ite_true, ite_false, ite_not, bs, bI, cond_true]
    · simp (disch := omega) only [b_X12_askWhere_8, lm8, lm2, lm1, l0, l1, l2, l3, l4, l5, l6, l7, l8, l9, l10, l11, l12, l13, l14, l15, l16, l17, l18, l19, l20, l21, l22, l23, l24, l25, l27, l31, l32, l40, l46, l48, l50, l57, l59, l63, l86, l96, l97, l100, l110, l114, l122, l127, l200, l255, l300, l319, l320, l340, l441, l456, l580, l600, l800, l886, l1206, l1526, J_add, J_sub, J_mul, J_neg, J_lt, J_le, J_eq, jT, jF, iT, iF, eT, eF, aT, aF, ite_true, ite_false, ite_not, bs]
end HV
