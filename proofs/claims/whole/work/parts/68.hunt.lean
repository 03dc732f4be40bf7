/-! PURE PART: hunts, the class -/
def HWf (U : Int → Int) : Prop := (0 ≤ U 0 ∧ U 0 ≤ 8) ∧ ∀ k, 0 ≤ k → k < U 0 → (U (1 + 3 * k) = 0 ∨ U (1 + 3 * k) = 1) ∧ (0 ≤ U (1 + 3 * k + 1) ∧ U (1 + 3 * k + 1) < 4) ∧ (0 ≤ U (1 + 3 * k + 2) ∧ U (1 + 3 * k + 2) < 10)
def TU (t : Tp) (g : Nat) : Prop := t.1 g = 4 ∧ t.2.2 g 1 = g + 1 ∧ TI t (g + 1) 24
/-- the class's Hunt at g shows U -/
def HA (h : Hp) (g : Nat) (U : Int → Int) : Prop := TU (top h) g ∧ HWf U ∧ hE h g 0 = U 0 ∧ ∀ i, 0 ≤ i → i < 3 * U 0 → hE h (g + 1) i = U (1 + i)
/-- the slots told, as bits -/
def tsN (U : Int → Int) (b : Int) : Nat → Nat
  | 0 => 0
  | n + 1 => tsN U b n ||| (if U (1 + 3 * (n : Int)) = b then 2 ^ (U (1 + 3 * (n : Int) + 1) * 10 + U (1 + 3 * (n : Int) + 2)).toNat else 0)
def tsT (U : Int → Int) (b : Int) : Nat := tsN U b (U 0).toNat
def ksB (s i o : Nat) : Bool := decide (s &&& i = i) && decide (s &&& o = 0)
/-- a word is as the facts tell -/
def soB (T U : Int → Int) (w : Int) : Bool := decide (fiZ (U 0) (fun k => decide ((vbT T (U (1 + 3 * k + 1)) (U (1 + 3 * k + 2)) && decide (0 < tiT T (U (1 + 3 * k + 1)) (U (1 + 3 * k + 2)) w)) ≠ decide (U (1 + 3 * k) = 1))) = -1)
section HU
variable {h : Hp} {o g : Nat} {T U : Int → Int}
theorem HA.tag (G : HA h g U) : hTag h g = 4 := G.1.1
theorem HA.f0 (G : HA h g U) : gfI h g 4 0 = some (J (U 0)) := by rw [gfI_ok G.1.1]; exact congrArg (fun z => some (J z)) G.2.2.1
theorem HA.partOf (G : HA h g U) {k i : Int} (k0 : 0 ≤ k) (k1 : k < U 0) (i0 : 0 ≤ i) (i1 : i < 3) : m_X3_partOf g (J k) (J i) h = some (J (U (1 + 3 * k + i))) := by
  have h0 := G.2.1.1
  have e := X5_at_ok (h := h) (i := k * 3 + i) G.1.2.2 (by omega) (by omega) (by omega)
  rw [atE_in (by omega) (by omega), G.2.2.2 _ (by omega) (by omega), show 1 + (k * 3 + i) = 1 + 3 * k + i by omega] at e
  simp only [m_X3_partOf, gfR_ok (h := h) (t := 4) (k := 1) G.1.1 G.1.2.1, e, lm8, lm2, lm1, l0, l1, l2, l3, l4, l5, l6, l7, l8, l9, l10, l11, l12, l13, l14, l15, l16, l17, l18, l19, l20, l21, l22, l23, l24, l25, l27, l31, l32, l40, l46, l48, l50, l57, l59, l63, l86, l96, l97, l100, l110, l114, l122, l127, l200, l255, l300, l319, l320, l340, l441, l456, l580, l600, l800, l886, l1206, l1526, J_add, J_sub, J_mul, J_neg, J_lt, J_le, J_eq, jT, jF, iT, iF, eT, eF, aT, aF, ite_true, ite_false, ite_not, bs]
theorem HA.has (G : HA h g U) {k : Int} (h1 : -2147483648 ≤ k) (h2 : k < 2147483648) : m_X3_has g (J k) h = some (J (b01 (decide (0 ≤ k) && decide (k < U 0)))) := by
  have h0 := G.2.1.1
  by_cases hk : k < 0
  · rw [decide_eq_false (show ¬ 0 ≤ k by omega), Bool.false_and]
    simp (disch := omega) only [m_X3_has, j_X3_has_17, lm8, lm2, lm1, l0, l1, l2, l3, l4, l5, l6, l7, l8, l9, l10, l11, l12, l13, l14, l15, l16, l17, l18, l19, l20, l21, l22, l23, l24, l25, l27, l31, l32, l40, l46, l48, l50, l57, l59, l63, l86, l96, l97, l100, l110, l114, l122, l127, l200, l255, l300, l319, l320, l340, l441, l456, l580, l600, l800, l886, l1206, l1526, J_add, J_sub, J_mul, J_neg, J_lt, J_le, J_eq, jT, jF, iT, iF, eT, eF, aT, aF, ite_true, ite_false, ite_not, bs, zb0]
    rfl
  · rw [decide_eq_true (show 0 ≤ k by omega), Bool.true_and]
    by_cases hk2 : k < U 0
    · rw [decide_eq_true hk2]
      simp (disch := omega) only [m_X3_has, j_X3_has_17, G.f0, lm8, lm2, lm1, l0, l1, l2, l3, l4, l5, l6, l7, l8, l9, l10, l11, l12, l13, l14, l15, l16, l17, l18, l19, l20, l21, l22, l23, l24, l25, l27, l31, l32, l40, l46, l48, l50, l57, l59, l63, l86, l96, l97, l100, l110, l114, l122, l127, l200, l255, l300, l319, l320, l340, l441, l456, l580, l600, l800, l886, l1206, l1526, J_add, J_sub, J_mul, J_neg, J_lt, J_le, J_eq, jT, jF, iT, iF, eT, eF, aT, aF, ite_true, ite_false, ite_not, bs, zb1]
      rfl
    · rw [decide_eq_false hk2]
      simp (disch := omega) only [m_X3_has, j_X3_has_17, G.f0, lm8, lm2, lm1, l0, l1, l2, l3, l4, l5, l6, l7, l8, l9, l10, l11, l12, l13, l14, l15, l16, l17, l18, l19, l20, l21, l22, l23, l24, l25, l27, l31, l32, l40, l46, l48, l50, l57, l59, l63, l86, l96, l97, l100, l110, l114, l122, l127, l200, l255, l300, l319, l320, l340, l441, l456, l580, l600, l800, l886, l1206, l1526, J_add, J_sub, J_mul, J_neg, J_lt, J_le, J_eq, jT, jF, iT, iF, eT, eF, aT, aF, ite_true, ite_false, ite_not, bs, zb0]
      rfl
theorem tsN_lt (W : HWf U) (b : Int) : ∀ n : Nat, (n : Int) ≤ U 0 → tsN U b n < 2 ^ 40 := by
  intro n
  induction n with
  | zero => intro _; show (0 : Nat) < 2 ^ 40; decide
  | succ n ih =>
    intro hn
    show tsN U b n ||| _ < 2 ^ 40
    have hk := W.2 n (by omega) (by omega)
    refine Nat.or_lt_two_pow (ih (by omega)) ?_
    split
    · exact Nat.pow_lt_pow_right (by decide) (by omega)
    · decide
theorem tsT_lt (W : HWf U) (b : Int) : tsT U b < 2 ^ 40 := tsN_lt W b _ (by have := W.1; omega)
theorem tsN_bit {b : Int} (i : Nat) : ∀ n : Nat, (tsN U b n).testBit i = true ↔ ∃ k : Nat, k < n ∧ U (1 + 3 * (k : Int)) = b ∧ (U (1 + 3 * (k : Int) + 1) * 10 + U (1 + 3 * (k : Int) + 2)).toNat = i := by
  intro n
  induction n with
  | zero =>
    show (0 : Nat).testBit i = true ↔ _
    rw [Nat.zero_testBit]
    exact ⟨fun q => (by cases q), fun ⟨t, ht, _⟩ => absurd ht (by omega)⟩
  | succ n ih =>
    show (tsN U b n ||| _).testBit i = true ↔ _
    rw [Nat.testBit_or, Bool.or_eq_true, ih]
    constructor
    · rintro (⟨t, h1, h2⟩ | h)
      · exact ⟨t, by omega, h2⟩
      · by_cases hw : U (1 + 3 * (n : Int)) = b
        · rw [if_pos hw, Nat.testBit_two_pow, decide_eq_true_eq] at h
          exact ⟨n, by omega, hw, h⟩
        · rw [if_neg hw, Nat.zero_testBit] at h
          cases h
    · rintro ⟨t, h1, h2, h3⟩
      by_cases ht : t = n
      · subst ht
        refine Or.inr ?_
        rw [if_pos h2, Nat.testBit_two_pow, decide_eq_true_eq]
        exact h3
      · exact Or.inl ⟨t, by omega, h2, h3⟩
theorem so_iff {w : Int} : soB T U w = true ↔ ∀ k, 0 ≤ k → k < U 0 → (vbT T (U (1 + 3 * k + 1)) (U (1 + 3 * k + 2)) && decide (0 < tiT T (U (1 + 3 * k + 1)) (U (1 + 3 * k + 2)) w)) = decide (U (1 + 3 * k) = 1) := by
  unfold soB
  rw [decide_eq_true_eq]
  rcases fiZ_spec (U 0) (fun k => decide ((vbT T (U (1 + 3 * k + 1)) (U (1 + 3 * k + 2)) && decide (0 < tiT T (U (1 + 3 * k + 1)) (U (1 + 3 * k + 2)) w)) ≠ decide (U (1 + 3 * k) = 1))) with ⟨e1, e2⟩ | ⟨e1, e2, e3, e4⟩
  · refine ⟨fun _ k k0 k1 => ?_, fun _ => e1⟩
    have := e2 k k0 k1
    rw [decide_eq_false_iff_not] at this
    exact Classical.byContradiction this
  · refine ⟨fun q => absurd q (by omega), fun q => ?_⟩
    rw [decide_eq_true_eq] at e3
    exact absurd (q _ e1 e2) e3
theorem ks_so (A : AW T) (W : HWf U) (w : Int) : ksB (slT T w) (tsT U 1) (tsT U 0) = soB T U w := by
  have h0 := W.1
  have hsl := fun (k : Int) (k0 : 0 ≤ k) (k1 : k < U 0) => sl_bit (w := w) (i := U (1 + 3 * k + 1) * 10 + U (1 + 3 * k + 2)) A (by have := W.2 k k0 k1; omega) (by have := W.2 k k0 k1; omega)
  have key : ksB (slT T w) (tsT U 1) (tsT U 0) = true ↔ soB T U w = true := by
    rw [so_iff]
    unfold ksB
    rw [Bool.and_eq_true, decide_eq_true_eq, decide_eq_true_eq]
    constructor
    · rintro ⟨h1, h2⟩ k k0 k1
      have hk := W.2 k k0 k1
      have hs := hsl k k0 k1
      have hkn : ((k.toNat : Nat) : Int) = k := Int.toNat_of_nonneg k0
      rw [show (U (1 + 3 * k + 1) * 10 + U (1 + 3 * k + 2)) / 10 = U (1 + 3 * k + 1) by omega, show (U (1 + 3 * k + 1) * 10 + U (1 + 3 * k + 2)) % 10 = U (1 + 3 * k + 2) by omega] at hs
      rw [← hs]
      unfold bt
      rw [decide_eq_true (by omega), Bool.true_and]
      rcases hk.1 with hz | hz
      · have hb : (tsT U 0).testBit (U (1 + 3 * k + 1) * 10 + U (1 + 3 * k + 2)).toNat = true := (tsN_bit _ _).mpr ⟨k.toNat, by omega, by rw [hkn]; exact hz, by rw [hkn]⟩
        have := congrArg (fun z => Nat.testBit z (U (1 + 3 * k + 1) * 10 + U (1 + 3 * k + 2)).toNat) h2
        simp only [Nat.testBit_and, hb, Bool.and_true, Nat.zero_testBit] at this
        rw [this, decide_eq_false (by omega)]
      · have hb : (tsT U 1).testBit (U (1 + 3 * k + 1) * 10 + U (1 + 3 * k + 2)).toNat = true := (tsN_bit _ _).mpr ⟨k.toNat, by omega, by rw [hkn]; exact hz, by rw [hkn]⟩
        have := congrArg (fun z => Nat.testBit z (U (1 + 3 * k + 1) * 10 + U (1 + 3 * k + 2)).toNat) h1
        simp only [Nat.testBit_and, hb, Bool.and_true] at this
        rw [this, decide_eq_true hz]
    · intro hall
      have hbit : ∀ (b : Int) (i : Nat), (b = 0 ∨ b = 1) → (tsT U b).testBit i = true → (slT T w).testBit i = decide (b = 1) := by
        intro b i hb hi
        obtain ⟨k, k1, k2, k3⟩ := (tsN_bit i _).mp hi
        have hk := W.2 k (by omega) (by omega)
        have hs := hsl k (by omega) (by omega)
        rw [show (U (1 + 3 * (k : Int) + 1) * 10 + U (1 + 3 * (k : Int) + 2)) / 10 = U (1 + 3 * (k : Int) + 1) by omega, show (U (1 + 3 * (k : Int) + 1) * 10 + U (1 + 3 * (k : Int) + 2)) % 10 = U (1 + 3 * (k : Int) + 2) by omega, hall k (by omega) (by omega)] at hs
        unfold bt at hs
        rw [decide_eq_true (by omega), Bool.true_and, k3, k2] at hs
        exact hs
      constructor
      · refine Nat.eq_of_testBit_eq (fun i => ?_)
        rw [Nat.testBit_and]
        cases hi : (tsT U 1).testBit i
        · rw [Bool.and_false]
        · rw [hbit 1 i (Or.inr rfl) hi]
          rfl
      · refine Nat.eq_of_testBit_eq (fun i => ?_)
        rw [Nat.testBit_and, Nat.zero_testBit]
        cases hi : (tsT U 0).testBit i
        · rw [Bool.and_false]
        · rw [hbit 0 i (Or.inl rfl) hi]
          rfl
  cases hc : ksB (slT T w) (tsT U 1) (tsT U 0)
  · cases hd : soB T U w
    · rfl
    · rw [key.mpr hd] at hc
      cases hc
  · exact (key.mp hc).symm
theorem HA.slotsTold (G : HA h g U) {b : Int} (hb : b = 0 ∨ b = 1) : m_X3_slotsTold g (J b) h = some (L (tsT U b)) := by
  have h0 := G.2.1.1
  unfold m_X3_slotsTold l_X3_slotsTold_5 tsT
  refine loop_int (fun i => (L (tsN U b i.toNat), J i)) (U 0) h0.1 (by omega) rfl (fun k_ i hi hi2 => ?_) (fun k_ => ?_)
  · have hk := G.2.1.2 i hi hi2
    have hin : ((i.toNat : Nat) : Int) = i := Int.toNat_of_nonneg hi
    have p0 := G.partOf hi hi2 (i := 0) (by omega) (by omega)
    have p1 := G.partOf hi hi2 (i := 1) (by omega) (by omega)
    have p2 := G.partOf hi hi2 (i := 2) (by omega) (by omega)
    rw [Int.add_zero] at p0
    have es : tsN U b (i + 1).toNat = tsN U b i.toNat ||| (if U (1 + 3 * i) = b then 2 ^ (U (1 + 3 * i + 1) * 10 + U (1 + 3 * i + 2)).toNat else 0) := by
      rw [show (i + 1).toNat = i.toNat + 1 by omega]
      show tsN U b i.toNat ||| (if U (1 + 3 * (i.toNat : Int)) = b then 2 ^ (U (1 + 3 * (i.toNat : Int) + 1) * 10 + U (1 + 3 * (i.toNat : Int) + 2)).toNat else 0) = _
      rw [hin]
    have hlt := tsN_lt G.2.1 b i.toNat (by omega)
    rw [es]
    by_cases hz : U (1 + 3 * i) = b
    · rw [if_pos hz]
      have hs : (lshlF (1 : Int64) (J (U (1 + 3 * i + 1) * 10 + U (1 + 3 * i + 2)))) = L (2 ^ (U (1 + 3 * i + 1) * 10 + U (1 + 3 * i + 2)).toNat) := by
        rw [ll1, L_shl (by omega) (by omega), Nat.one_mul]
      have hp2 : 2 ^ (U (1 + 3 * i + 1) * 10 + U (1 + 3 * i + 2)).toNat < 2 ^ 64 := Nat.pow_lt_pow_right (by decide) (by omega)
      have ho : L (tsN U b i.toNat) ||| L (2 ^ (U (1 + 3 * i + 1) * 10 + U (1 + 3 * i + 2)).toNat) = L (tsN U b i.toNat ||| 2 ^ (U (1 + 3 * i + 1) * 10 + U (1 + 3 * i + 2)).toNat) := L_or (Nat.lt_trans hlt (by decide)) hp2
      simp (disch := omega) only [b_X3_slotsTold_5, j_X3_slotsTold_47, G.f0, rc_ok G.tag, p0, p1, p2, X0_slotOf_ok, hs, ho, lm8, lm2, lm1, l0, l1, l2, l3, l4, l5, l6, l7, l8, l9, l10, l11, l12, l13, l14, l15, l16, l17, l18, l19, l20, l21, l22, l23, l24, l25, l27, l31, l32, l40, l46, l48, l50, l57, l59, l63, l86, l96, l97, l100, l110, l114, l122, l127, l200, l255, l300, l319, l320, l340, l441, l456, l580, l600, l800, l886, l1206, l1526, J_add, J_sub, J_mul, J_neg, J_lt, J_le, J_eq, jT, jF, iT, iF, eT, eF, aT, aF, ite_true, ite_false, ite_not, bs]
    · rw [if_neg hz, Nat.or_zero]
      simp (disch := omega) only [b_X3_slotsTold_5, j_X3_slotsTold_47, G.f0, rc_ok G.tag, p0, lm8, lm2, lm1, l0, l1, l2, l3, l4, l5, l6, l7, l8, l9, l10, l11, l12, l13, l14, l15, l16, l17, l18, l19, l20, l21, l22, l23, l24, l25, l27, l31, l32, l40, l46, l48, l50, l57, l59, l63, l86, l96, l97, l100, l110, l114, l122, l127, l200, l255, l300, l319, l320, l340, l441, l456, l580, l600, l800, l886, l1206, l1526, J_add, J_sub, J_mul, J_neg, J_lt, J_le, J_eq, jT, jF, iT, iF, eT, eF, aT, aF, ite_true, ite_false, ite_not, bs]
  · simp (disch := omega) only [b_X3_slotsTold_5, G.f0, lm8, lm2, lm1, l0, l1, l2, l3, l4, l5, l6, l7, l8, l9, l10, l11, l12, l13, l14, l15, l16, l17, l18, l19, l20, l21, l22, l23, l24, l25, l27, l31, l32, l40, l46, l48, l50, l57, l59, l63, l86, l96, l97, l100, l110, l114, l122, l127, l200, l255, l300, l319, l320, l340, l441, l456, l580, l600, l800, l886, l1206, l1526, J_add, J_sub, J_mul, J_neg, J_lt, J_le, J_eq, jT, jF, iT, iF, eT, eF, aT, aF, ite_true, ite_false, ite_not, bs]
theorem X3_keepsTo_ok {s i e : Nat} (hs : s < 2 ^ 40) (hi : i < 2 ^ 40) (he : e < 2 ^ 40) : m_X3_keepsTo (L s) (L i) (L e) h = some (J (b01 (ksB s i e))) := by
  have l63 : (2 : Nat) ^ 40 < 2 ^ 63 := by decide
  have l64 : (2 : Nat) ^ 40 < 2 ^ 64 := by decide
  have e1 : L s &&& L i = L (s &&& i) := L_and (Nat.lt_trans hs l64) (Nat.lt_trans hi l64)
  have e2 : L s &&& L e = L (s &&& e) := L_and (Nat.lt_trans hs l64) (Nat.lt_trans he l64)
  have c1 : (lg_cmp (L (s &&& i)) (L i) = 0) = (s &&& i = i) := lcmp (Nat.lt_trans (Nat.lt_of_le_of_lt Nat.and_le_left hs) l63) (Nat.lt_trans hi l63)
  have c2 : (lg_cmp (L (s &&& e)) (L 0) = 0) = (s &&& e = 0) := lcmp (Nat.lt_trans (Nat.lt_of_le_of_lt Nat.and_le_left hs) l63) (by decide)
  unfold m_X3_keepsTo j_X3_keepsTo_22 ksB
  rw [e1, e2, ll0]
  by_cases h1 : s &&& i = i
  · rw [if_neg (by rw [c1]; exact fun q => q h1), decide_eq_true h1, Bool.true_and]
    by_cases h2 : s &&& e = 0
    · rw [if_neg (by rw [c2]; exact fun q => q h2), decide_eq_true h2]
      rfl
    · rw [if_pos (by rw [c2]; exact h2), decide_eq_false h2]
      rfl
  · rw [if_pos (by rw [c1]; exact h1), decide_eq_false h1, Bool.false_and]
    rfl
/-- words that fit -/
def fsT (T U : Int → Int) (i : Int) : Bool := soB T U (wfT T i)
def fcT (T U : Int → Int) (i : Int) : Int := sumZ i (fun i => b01 (fsT T U i))
theorem fc_rg {i : Int} (hi : 0 ≤ i) : 0 ≤ fcT T U i ∧ fcT T U i ≤ i := by
  have := sumZ_nonneg (n := i) (c := 1) (f := fun i => b01 (fsT T U i)) hi (fun t _ _ => b01_rg _)
  unfold fcT
  omega
theorem fc_succ {i : Int} (hi : 0 ≤ i) : fcT T U (i + 1) = fcT T U i + b01 (fsT T U i) := sumZ_succ hi
theorem CA.keeps (H : CA h o T) (C : CW h o T) (W : HWf U) {i : Int} (i0 : 0 ≤ i) (i1 : i < wcT T) : m_X3_keepsTo (L (slT T (wfT T i))) (L (tsT U 1)) (L (tsT U 0)) h = some (J (b01 (fsT T U i))) := by
  rw [X3_keepsTo_ok (slT_lt H.wf _) (tsT_lt W 1) (tsT_lt W 0), ks_so H.wf W]
  rfl
theorem CA.f2w (H : CA h o T) (C : CW h o T) : gfI h o 1 2 = some (J (wcT T)) := by rw [H.1.f2, C.1]; rfl
theorem HA.fitting (G : HA h g U) (H : CA h o T) (C : CW h o T) : m_X3_fitting g o h = some (J (fcT T U (wcT T))) := by
  have hw := wc_rg H.wf
  have t1 := G.slotsTold (b := 1) (Or.inr rfl)
  have t0 := G.slotsTold (b := 0) (Or.inl rfl)
  unfold m_X3_fitting
  rw [rc_ok G.tag, rc_ok G.tag, l1, l0, t1, bs, t0, bs]
  unfold l_X3_fitting_19
  refine loop_int (fun i => (J (fcT T U i), J i)) (wcT T) hw.1 (by omega) rfl (fun k_ i hi hi2 => ?_) (fun k_ => ?_)
  · rw [fc_succ hi]
    simp (disch := omega) only [b_X3_fitting_19, j_X3_fitting_50, H.f2w C, rc_ok H.tag, H.slotsOfWord C hi hi2, H.keeps C G.2.1 hi hi2, lm8, lm2, lm1, l0, l1, l2, l3, l4, l5, l6, l7, l8, l9, l10, l11, l12, l13, l14, l15, l16, l17, l18, l19, l20, l21, l22, l23, l24, l25, l27, l31, l32, l40, l46, l48, l50, l57, l59, l63, l86, l96, l97, l100, l110, l114, l122, l127, l200, l255, l300, l319, l320, l340, l441, l456, l580, l600, l800, l886, l1206, l1526, J_add, J_sub, J_mul, J_neg, J_lt, J_le, J_eq, jT, jF, iT, iF, eT, eF, aT, aF, ite_true, ite_false, ite_not, bs, bI, bJ]
  · simp (disch := omega) only [b_X3_fitting_19, H.f2w C, lm8, lm2, lm1, l0, l1, l2, l3, l4, l5, l6, l7, l8, l9, l10, l11, l12, l13, l14, l15, l16, l17, l18, l19, l20, l21, l22, l23, l24, l25, l27, l31, l32, l40, l46, l48, l50, l57, l59, l63, l86, l96, l97, l100, l110, l114, l122, l127, l200, l255, l300, l319, l320, l340, l441, l456, l580, l600, l800, l886, l1206, l1526, J_add, J_sub, J_mul, J_neg, J_lt, J_le, J_eq, jT, jF, iT, iF, eT, eF, aT, aF, ite_true, ite_false, ite_not, bs]
/-- the word that fits at a place, -2: none -/
def faT (T U : Int → Int) (n p : Int) : Int := if fiZ n (fun i => fsT T U i && decide (fcT T U i = p)) = -1 then -2 else wfT T (fiZ n (fun i => fsT T U i && decide (fcT T U i = p)))
theorem HA.fittingAt (G : HA h g U) (H : CA h o T) (C : CW h o T) {p : Int} (p0 : -2147483648 ≤ p) (p1 : p < 2147483648) : m_X3_fittingAt g o (J p) h = some (J (faT T U (wcT T) p)) := by
  have hw := wc_rg H.wf
  have t1 := G.slotsTold (b := 1) (Or.inr rfl)
  have t0 := G.slotsTold (b := 0) (Or.inl rfl)
  unfold m_X3_fittingAt
  rw [rc_ok G.tag, rc_ok G.tag, l1, l0, t1, bs, t0, bs]
  unfold l_X3_fittingAt_19 faT
  refine loop_find (fun i => (J (fcT T U i), J i)) (wcT T) (fun i => fsT T U i && decide (fcT T U i = p)) (fun i => some (J (if i = -1 then -2 else wfT T i))) hw.1 (by omega) rfl (fun k_ i hi hi2 hp => ?_) (fun k_ i hi hi2 hp => ?_) (fun k_ => ?_)
  · have hc := fc_rg (T := T) (U := U) hi
    rw [fc_succ hi]
    have ek := H.keeps C G.2.1 hi hi2
    cases hz : fsT T U i
    · rw [hz] at ek
      simp (disch := omega) only [b_X3_fittingAt_19, j_X3_fittingAt_62, H.f2w C, rc_ok H.tag, H.slotsOfWord C hi hi2, ek, lm8, lm2, lm1, l0, l1, l2, l3, l4, l5, l6, l7, l8, l9, l10, l11, l12, l13, l14, l15, l16, l17, l18, l19, l20, l21, l22, l23, l24, l25, l27, l31, l32, l40, l46, l48, l50, l57, l59, l63, l86, l96, l97, l100, l110, l114, l122, l127, l200, l255, l300, l319, l320, l340, l441, l456, l580, l600, l800, l886, l1206, l1526, J_add, J_sub, J_mul, J_neg, J_lt, J_le, J_eq, jT, jF, iT, iF, eT, eF, aT, aF, ite_true, ite_false, ite_not, bs, bI, cond_false]
      rw [show b01 false = 0 from rfl, Int.add_zero]
    · rw [hz] at ek
      rw [hz, Bool.true_and] at hp
      have hp2 : ¬ fcT T U i = p := by simpa using hp
      simp (disch := omega) only [b_X3_fittingAt_19, j_X3_fittingAt_62, H.f2w C, rc_ok H.tag, H.slotsOfWord C hi hi2, ek, lm8, lm2, lm1, l0, l1, l2, l3, l4, l5, l6, l7, l8, l9, l10, l11, l12, l13, l14, l15, l16, l17, l18, l19, l20, l21, l22, l23, l24, l25, l27, l31, l32, l40, l46, l48, l50, l57, l59, l63, l86, l96, l97, l100, l110, l114, l122, l127, l200, l255, l300, l319, l320, l340, l441, l456, l580, l600, l800, l886, l1206, l1526, J_add, J_sub, J_mul, J_neg, J_lt, J_le, J_eq, jT, jF, iT, iF, eT, eF, aT, aF, ite_true, ite_false, ite_not, bs, bI, cond_true]
      rfl
  · have hc := fc_rg (T := T) (U := U) hi
    have ek := H.keeps C G.2.1 hi hi2
    rw [Bool.and_eq_true] at hp
    rw [hp.1] at ek
    have hp2 : fcT T U i = p := by simpa using hp.2
    rw [if_neg (by omega)]
    simp (disch := omega) only [b_X3_fittingAt_19, j_X3_fittingAt_49, H.f2w C, rc_ok H.tag, H.slotsOfWord C hi hi2, ek, H.wordAt C hi hi2, X5_wordNumber_ok (wfT_wrg H.wf hi hi2), lm8, lm2, lm1, l0, l1, l2, l3, l4, l5, l6, l7, l8, l9, l10, l11, l12, l13, l14, l15, l16, l17, l18, l19, l20, l21, l22, l23, l24, l25, l27, l31, l32, l40, l46, l48, l50, l57, l59, l63, l86, l96, l97, l100, l110, l114, l122, l127, l200, l255, l300, l319, l320, l340, l441, l456, l580, l600, l800, l886, l1206, l1526, J_add, J_sub, J_mul, J_neg, J_lt, J_le, J_eq, jT, jF, iT, iF, eT, eF, aT, aF, ite_true, ite_false, ite_not, bs, bI, cond_true]
  · rw [if_pos rfl]
    simp (disch := omega) only [b_X3_fittingAt_19, H.f2w C, lm8, lm2, lm1, l0, l1, l2, l3, l4, l5, l6, l7, l8, l9, l10, l11, l12, l13, l14, l15, l16, l17, l18, l19, l20, l21, l22, l23, l24, l25, l27, l31, l32, l40, l46, l48, l50, l57, l59, l63, l86, l96, l97, l100, l110, l114, l122, l127, l200, l255, l300, l319, l320, l340, l441, l456, l580, l600, l800, l886, l1206, l1526, J_add, J_sub, J_mul, J_neg, J_lt, J_le, J_eq, jT, jF, iT, iF, eT, eF, aT, aF, ite_true, ite_false, ite_not, bs]
/-- the first letter of a word -/
def fl (w : Int) : Int := wide w / 19683
theorem fl_rg {w : Int} (hw : wrg w) : 1 ≤ fl w ∧ fl w ≤ 26 := by
  have := wide_rg hw.1 hw.2.1
  unfold fl
  omega
/-- the letter of the first word that fits; whether all have it -/
def ffT (T U : Int → Int) (n : Int) : Int := fiZ n (fun i => fsT T U i)
def dlT (T U : Int → Int) (n : Int) : Int := fiZ n (fun i => fsT T U i && decide (0 ≤ ffT T U i ∧ fl (wfT T i) ≠ fl (wfT T (ffT T U i))))
def suT (T U : Int → Int) : Int := if dlT T U (wcT T) = -1 then (if ffT T U (wcT T) = -1 then -1 else fl (wfT T (ffT T U (wcT T)))) else -1
theorem ff_succ {i : Int} (hi : 0 ≤ i) : ffT T U (i + 1) = if ffT T U i = -1 then (if fsT T U i = true then i else -1) else ffT T U i := by
  unfold ffT
  rcases fiZ_spec i (fun i => fsT T U i) with ⟨e1, e2⟩ | ⟨e1, e2, e3, e4⟩
  · rw [if_pos e1]
    by_cases hz : fsT T U i = true
    · rw [if_pos hz]
      exact fiZ_eq hi (by omega) hz (fun j j0 j1 => e2 j j0 j1)
    · rw [if_neg hz]
      refine fiZ_none (fun j j0 j1 => ?_)
      by_cases hj : j = i
      · rw [hj]
        simpa using hz
      · exact e2 j j0 (by omega)
  · rw [if_neg (by omega)]
    exact fiZ_eq e1 (by omega) e3 e4
theorem ff_rg {i : Int} : -1 ≤ ffT T U i ∧ (ffT T U i = -1 ∨ (0 ≤ ffT T U i ∧ ffT T U i < i)) := by
  unfold ffT
  rcases fiZ_spec i (fun i => fsT T U i) with ⟨e1, _⟩ | ⟨e1, e2, _⟩ <;> omega
theorem HA.sureLetter (G : HA h g U) (H : CA h o T) (C : CW h o T) : m_X3_sureLetter g o h = some (J (suT T U)) := by
  have hw := wc_rg H.wf
  have t1 := G.slotsTold (b := 1) (Or.inr rfl)
  have t0 := G.slotsTold (b := 0) (Or.inl rfl)
  unfold m_X3_sureLetter
  rw [rc_ok G.tag, rc_ok G.tag, l1, l0, t1, bs, t0, bs]
  unfold l_X3_sureLetter_19 suT dlT
  refine (loop_find (fun i => (J (if ffT T U i = -1 then -1 else fl (wfT T (ffT T U i))), J i)) (wcT T) (fun i => fsT T U i && decide (0 ≤ ffT T U i ∧ fl (wfT T i) ≠ fl (wfT T (ffT T U i)))) (fun i => some (J (if i = -1 then (if ffT T U (wcT T) = -1 then -1 else fl (wfT T (ffT T U (wcT T)))) else -1))) hw.1 (by omega) rfl (fun k_ i hi hi2 hp => ?_) (fun k_ i hi hi2 hp => ?_) (fun k_ => ?_))
  · have ek := H.keeps C G.2.1 hi hi2
    have hf := ff_rg (T := T) (U := U) (i := i)
    have hwi := wfT_wrg H.wf hi hi2
    have hli := fl_rg hwi
    have hwr := wide_rg hwi.1 hwi.2.1
    have el : m_X5_firstLetter (J (wide (wfT T i))) h = some (J (fl (wfT T i))) := by
      unfold m_X5_firstLetter fl
      rw [l19683, J_div (by omega) (by omega) (by omega) (by omega)]
    rw [ff_succ hi]
    cases hz : fsT T U i
    · rw [hz] at ek
      have e1 : (if ffT T U i = -1 then (if false = true then i else -1) else ffT T U i) = ffT T U i := by
        by_cases hq : ffT T U i = -1
        · rw [if_pos hq, if_neg (by decide), hq]
        · rw [if_neg hq]
      rw [e1]
      generalize (if ffT T U i = -1 then -1 else fl (wfT T (ffT T U i))) = z
      simp (disch := omega) only [b_X3_sureLetter_19, j_X3_sureLetter_73, H.f2w C, rc_ok H.tag, H.slotsOfWord C hi hi2, ek, lm8, lm2, lm1, l0, l1, l2, l3, l4, l5, l6, l7, l8, l9, l10, l11, l12, l13, l14, l15, l16, l17, l18, l19, l20, l21, l22, l23, l24, l25, l27, l31, l32, l40, l46, l48, l50, l57, l59, l63, l86, l96, l97, l100, l110, l114, l122, l127, l200, l255, l300, l319, l320, l340, l441, l456, l580, l600, l800, l886, l1206, l1526, J_add, J_sub, J_mul, J_neg, J_lt, J_le, J_eq, jT, jF, iT, iF, eT, eF, aT, aF, ite_true, ite_false, ite_not, bs, bI, cond_false]
    · rw [hz] at ek
      rw [hz, Bool.true_and] at hp
      have hp2 : ¬ (0 ≤ ffT T U i ∧ fl (wfT T i) ≠ fl (wfT T (ffT T U i))) := by simpa using hp
      by_cases hq : ffT T U i = -1
      · rw [if_pos hq, if_pos hq, if_pos rfl, if_neg (show ¬ i = -1 by omega)]
        simp (disch := omega) only [b_X3_sureLetter_19, j_X3_sureLetter_73, j_X3_sureLetter_69, H.f2w C, rc_ok H.tag, H.slotsOfWord C hi hi2, ek, H.wordAt C hi hi2, el, lm8, lm2, lm1, l0, l1, l2, l3, l4, l5, l6, l7, l8, l9, l10, l11, l12, l13, l14, l15, l16, l17, l18, l19, l20, l21, l22, l23, l24, l25, l27, l31, l32, l40, l46, l48, l50, l57, l59, l63, l86, l96, l97, l100, l110, l114, l122, l127, l200, l255, l300, l319, l320, l340, l441, l456, l580, l600, l800, l886, l1206, l1526, J_add, J_sub, J_mul, J_neg, J_lt, J_le, J_eq, jT, jF, iT, iF, eT, eF, aT, aF, ite_true, ite_false, ite_not, bs, bI, cond_true]
      · rw [if_neg hq, if_neg hq, if_neg hq]
        have he : fl (wfT T i) = fl (wfT T (ffT T U i)) := Classical.byContradiction (fun q => hp2 ⟨by omega, q⟩)
        rw [← he]
        simp (disch := omega) only [b_X3_sureLetter_19, j_X3_sureLetter_73, j_X3_sureLetter_69, H.f2w C, rc_ok H.tag, H.slotsOfWord C hi hi2, ek, H.wordAt C hi hi2, el, lm8, lm2, lm1, l0, l1, l2, l3, l4, l5, l6, l7, l8, l9, l10, l11, l12, l13, l14, l15, l16, l17, l18, l19, l20, l21, l22, l23, l24, l25, l27, l31, l32, l40, l46, l48, l50, l57, l59, l63, l86, l96, l97, l100, l110, l114, l122, l127, l200, l255, l300, l319, l320, l340, l441, l456, l580, l600, l800, l886, l1206, l1526, J_add, J_sub, J_mul, J_neg, J_lt, J_le, J_eq, jT, jF, iT, iF, eT, eF, aT, aF, ite_true, ite_false, ite_not, bs, bI, cond_true]
  · have ek := H.keeps C G.2.1 hi hi2
    have hf := ff_rg (T := T) (U := U) (i := i)
    have hwi := wfT_wrg H.wf hi hi2
    have hli := fl_rg hwi
    have hwr := wide_rg hwi.1 hwi.2.1
    have el : m_X5_firstLetter (J (wide (wfT T i))) h = some (J (fl (wfT T i))) := by
      unfold m_X5_firstLetter fl
      rw [l19683, J_div (by omega) (by omega) (by omega) (by omega)]
    rw [Bool.and_eq_true, decide_eq_true_eq] at hp
    rw [hp.1] at ek
    rw [if_neg (show ¬ i = -1 by omega)]
    have hwj := fl_rg (wfT_wrg H.wf hp.2.1 (show ffT T U i < wcT T by omega))
    have hne := hp.2.2
    rw [if_neg (show ¬ ffT T U i = -1 by omega)]
    simp (disch := omega) only [b_X3_sureLetter_19, j_X3_sureLetter_73, j_X3_sureLetter_69, H.f2w C, rc_ok H.tag, H.slotsOfWord C hi hi2, ek, H.wordAt C hi hi2, el, lm8, lm2, lm1, l0, l1, l2, l3, l4, l5, l6, l7, l8, l9, l10, l11, l12, l13, l14, l15, l16, l17, l18, l19, l20, l21, l22, l23, l24, l25, l27, l31, l32, l40, l46, l48, l50, l57, l59, l63, l86, l96, l97, l100, l110, l114, l122, l127, l200, l255, l300, l319, l320, l340, l441, l456, l580, l600, l800, l886, l1206, l1526, J_add, J_sub, J_mul, J_neg, J_lt, J_le, J_eq, jT, jF, iT, iF, eT, eF, aT, aF, ite_true, ite_false, ite_not, bs, bI, cond_true]
  · rw [if_pos rfl]
    simp (disch := omega) only [b_X3_sureLetter_19, H.f2w C, lm8, lm2, lm1, l0, l1, l2, l3, l4, l5, l6, l7, l8, l9, l10, l11, l12, l13, l14, l15, l16, l17, l18, l19, l20, l21, l22, l23, l24, l25, l27, l31, l32, l40, l46, l48, l50, l57, l59, l63, l86, l96, l97, l100, l110, l114, l122, l127, l200, l255, l300, l319, l320, l340, l441, l456, l580, l600, l800, l886, l1206, l1526, J_add, J_sub, J_mul, J_neg, J_lt, J_le, J_eq, jT, jF, iT, iF, eT, eF, aT, aF, ite_true, ite_false, ite_not, bs]
/-- how many that fit are in a version, by its slot -/
def seT (T U : Int → Int) (n s : Int) : Int := sumZ n (fun i => b01 (bt (slT T (wfT T i)) s && fsT T U i))
theorem HA.fittingIn (G : HA h g U) (H : CA h o T) (C : CW h o T) {s : Int} (s0 : 0 ≤ s) (s1 : s < 40) : m_X3_fittingIn g o (J s) h = some (J (seT T U (wcT T) s)) := by
  have hw := wc_rg H.wf
  have t1 := G.slotsTold (b := 1) (Or.inr rfl)
  have t0 := G.slotsTold (b := 0) (Or.inl rfl)
  unfold m_X3_fittingIn
  rw [rc_ok G.tag, rc_ok G.tag, l1, l0, t1, bs, t0, bs]
  unfold l_X3_fittingIn_19 seT
  refine loop_int (fun i => (J (sumZ i (fun i => b01 (bt (slT T (wfT T i)) s && fsT T U i))), J i)) (wcT T) hw.1 (by omega) rfl (fun k_ i hi hi2 => ?_) (fun k_ => ?_)
  · have hs2 : slT T (wfT T i) < 2 ^ 62 := Nat.lt_trans (slT_lt H.wf _) (by decide)
    have hs3 : s < 64 := by omega
    rw [sumZ_succ hi]
    cases hb : bt (slT T (wfT T i)) s
    · simp (disch := omega) only [b_X3_fittingIn_19, j_X3_fittingIn_65, H.f2w C, rc_ok H.tag, H.slotsOfWord C hi hi2, lbI hs2 s0 hs3, hb, lm8, lm2, lm1, l0, l1, l2, l3, l4, l5, l6, l7, l8, l9, l10, l11, l12, l13, l14, l15, l16, l17, l18, l19, l20, l21, l22, l23, l24, l25, l27, l31, l32, l40, l46, l48, l50, l57, l59, l63, l86, l96, l97, l100, l110, l114, l122, l127, l200, l255, l300, l319, l320, l340, l441, l456, l580, l600, l800, l886, l1206, l1526, J_add, J_sub, J_mul, J_neg, J_lt, J_le, J_eq, jT, jF, iT, iF, eT, eF, aT, aF, ite_true, ite_false, ite_not, bs, cond_false, Bool.false_and]
      rfl
    · simp (disch := omega) only [b_X3_fittingIn_19, j_X3_fittingIn_65, H.f2w C, rc_ok H.tag, H.slotsOfWord C hi hi2, lbI hs2 s0 hs3, hb, H.keeps C G.2.1 hi hi2, lm8, lm2, lm1, l0, l1, l2, l3, l4, l5, l6, l7, l8, l9, l10, l11, l12, l13, l14, l15, l16, l17, l18, l19, l20, l21, l22, l23, l24, l25, l27, l31, l32, l40, l46, l48, l50, l57, l59, l63, l86, l96, l97, l100, l110, l114, l122, l127, l200, l255, l300, l319, l320, l340, l441, l456, l580, l600, l800, l886, l1206, l1526, J_add, J_sub, J_mul, J_neg, J_lt, J_le, J_eq, jT, jF, iT, iF, eT, eF, aT, aF, ite_true, ite_false, ite_not, bs, bI, bJ, cond_true, Bool.true_and]
  · simp (disch := omega) only [b_X3_fittingIn_19, H.f2w C, lm8, lm2, lm1, l0, l1, l2, l3, l4, l5, l6, l7, l8, l9, l10, l11, l12, l13, l14, l15, l16, l17, l18, l19, l20, l21, l22, l23, l24, l25, l27, l31, l32, l40, l46, l48, l50, l57, l59, l63, l86, l96, l97, l100, l110, l114, l122, l127, l200, l255, l300, l319, l320, l340, l441, l456, l580, l600, l800, l886, l1206, l1526, J_add, J_sub, J_mul, J_neg, J_lt, J_le, J_eq, jT, jF, iT, iF, eT, eF, aT, aF, ite_true, ite_false, ite_not, bs]
theorem se_rg {n s : Int} (hn : 0 ≤ n) : 0 ≤ seT T U n s ∧ seT T U n s ≤ n := by
  have := sumZ_nonneg (n := n) (c := 1) (f := fun i => b01 (bt (slT T (wfT T i)) s && fsT T U i)) hn (fun t _ _ => b01_rg _)
  unfold seT
  omega
/-- the greater number; where it is least -/
def gnT (T U : Int → Int) (s : Int) : Int := max (seT T U (wcT T) s) (fcT T U (wcT T) - seT T U (wcT T) s)
def akN (T U : Int → Int) : Nat → Int × Int
  | 0 => (-1, 1000000)
  | n + 1 => if vbT T ((n : Int) / 10) ((n : Int) % 10) = true ∧ gnT T U n < (akN T U n).2 then ((n : Int), gnT T U n) else akN T U n
def akZ (T U : Int → Int) (n : Int) : Int × Int := akN T U n.toNat
theorem akZ_succ {n : Int} (h : 0 ≤ n) : akZ T U (n + 1) = if vbT T (n / 10) (n % 10) = true ∧ gnT T U n < (akZ T U n).2 then (n, gnT T U n) else akZ T U n := by
  unfold akZ
  rw [show (n + 1).toNat = n.toNat + 1 by omega]
  show (if vbT T (((n.toNat : Nat) : Int) / 10) (((n.toNat : Nat) : Int) % 10) = true ∧ gnT T U ((n.toNat : Nat) : Int) < (akN T U n.toNat).2 then (((n.toNat : Nat) : Int), gnT T U ((n.toNat : Nat) : Int)) else _) = _
  rw [Int.toNat_of_nonneg h]
theorem gn_rg (A : AW T) {s : Int} : 0 ≤ gnT T U s ∧ gnT T U s ≤ 319 := by
  have hw := wc_rg A
  have h1 := se_rg (T := T) (U := U) (s := s) hw.1
  have h2 := fc_rg (T := T) (U := U) hw.1
  unfold gnT
  omega
theorem ak_rg (A : AW T) : ∀ n : Nat, n ≤ 40 → (akN T U n = (-1, 1000000)) ∨ (0 ≤ (akN T U n).1 ∧ (akN T U n).1 < 40 ∧ 0 ≤ (akN T U n).2 ∧ (akN T U n).2 ≤ 319) := by
  intro n
  induction n with
  | zero => intro _; exact Or.inl rfl
  | succ n ih =>
    intro hn
    have hg := gn_rg A (U := U) (s := (n : Int))
    show (if vbT T ((n : Int) / 10) ((n : Int) % 10) = true ∧ gnT T U n < (akN T U n).2 then ((n : Int), gnT T U n) else akN T U n) = _ ∨ (0 ≤ (if vbT T ((n : Int) / 10) ((n : Int) % 10) = true ∧ gnT T U n < (akN T U n).2 then ((n : Int), gnT T U n) else akN T U n).1 ∧ (if vbT T ((n : Int) / 10) ((n : Int) % 10) = true ∧ gnT T U n < (akN T U n).2 then ((n : Int), gnT T U n) else akN T U n).1 < 40 ∧ 0 ≤ (if vbT T ((n : Int) / 10) ((n : Int) % 10) = true ∧ gnT T U n < (akN T U n).2 then ((n : Int), gnT T U n) else akN T U n).2 ∧ (if vbT T ((n : Int) / 10) ((n : Int) % 10) = true ∧ gnT T U n < (akN T U n).2 then ((n : Int), gnT T U n) else akN T U n).2 ≤ 319)
    by_cases hc : vbT T ((n : Int) / 10) ((n : Int) % 10) = true ∧ gnT T U n < (akN T U n).2
    · rw [if_pos hc]
      refine Or.inr ?_
      dsimp only
      omega
    · rw [if_neg hc]
      exact ih (by omega)
theorem HA.askVersion (G : HA h g U) (H : CA h o T) (C : CW h o T) : m_X3_askVersion g o h = some (J (if fcT T U (wcT T) = 0 then -1 else (akZ T U 40).1)) := by
  have hw := wc_rg H.wf
  have hfc := fc_rg (T := T) (U := U) hw.1
  unfold m_X3_askVersion
  rw [rc_ok G.tag, G.fitting H C, bs]
  unfold l_X3_askVersion_14
  by_cases hz : fcT T U (wcT T) = 0
  · rw [if_pos hz, hz]
    refine loop_int (fun i => (J (-1), J 0, J i)) 0 (by omega) (by omega) rfl (fun k_ i hi hi2 => by omega) (fun k_ => ?_)
    simp (disch := omega) only [b_X3_askVersion_14, lm8, lm2, lm1, l0, l1, l2, l3, l4, l5, l6, l7, l8, l9, l10, l11, l12, l13, l14, l15, l16, l17, l18, l19, l20, l21, l22, l23, l24, l25, l27, l31, l32, l40, l46, l48, l50, l57, l59, l63, l86, l96, l97, l100, l110, l114, l122, l127, l200, l255, l300, l319, l320, l340, l441, l456, l580, l600, l800, l886, l1206, l1526, J_add, J_sub, J_mul, J_neg, J_lt, J_le, J_eq, jT, jF, iT, iF, eT, eF, aT, aF, ite_true, ite_false, ite_not, bs]
  · rw [if_neg hz]
    refine loop_int (fun i => (J (akZ T U i).1, J (if (akZ T U i).1 = -1 then fcT T U (wcT T) else (akZ T U i).2), J i)) 40 (by omega) (by omega) rfl (fun k_ i hi hi2 => ?_) (fun k_ => ?_)
    · have ev := H.isVer (d := i / 10) (v := i % 10) (by omega) (by omega) (by omega) (by omega)
      have hse := se_rg (T := T) (U := U) (s := i) hw.1
      have hg := gn_rg H.wf (U := U) (s := i)
      have hak : akZ T U i = (-1, 1000000) ∨ (0 ≤ (akZ T U i).1 ∧ (akZ T U i).1 < 40 ∧ 0 ≤ (akZ T U i).2 ∧ (akZ T U i).2 ≤ 319) := ak_rg H.wf i.toNat (by omega)
      have ef := G.fittingIn H C hi hi2
      have em : m_J9_max_7cf53 (J (seT T U (wcT T) i)) (J (fcT T U (wcT T) - seT T U (wcT T) i)) h = some (J (gnT T U i)) := J9_max_ok (by omega) (by omega) (by omega) (by omega)
      rw [akZ_succ hi]
      generalize akZ T U i = ak at *
      cases hv : vbT T (i / 10) (i % 10)
      · rw [hv] at ev
        have e1 : (if (false = true ∧ gnT T U i < ak.2) then (i, gnT T U i) else ak) = ak := if_neg (fun q => by cases q.1)
        rw [e1]
        generalize (if ak.1 = -1 then fcT T U (wcT T) else ak.2) = z
        simp (disch := omega) only [b_X3_askVersion_14, j_X3_askVersion_95, rc_ok H.tag, J_div, J_rem, ev, lm8, lm2, lm1, l0, l1, l2, l3, l4, l5, l6, l7, l8, l9, l10, l11, l12, l13, l14, l15, l16, l17, l18, l19, l20, l21, l22, l23, l24, l25, l27, l31, l32, l40, l46, l48, l50, l57, l59, l63, l86, l96, l97, l100, l110, l114, l122, l127, l200, l255, l300, l319, l320, l340, l441, l456, l580, l600, l800, l886, l1206, l1526, J_add, J_sub, J_mul, J_neg, J_lt, J_le, J_eq, jT, jF, iT, iF, eT, eF, aT, aF, ite_true, ite_false, ite_not, bs, bI, cond_false]
      · rw [hv] at ev
        have e10 : (10 : Int) * (i / 10) + i % 10 = i := by omega
        rcases hak with hak | hak
        · rw [hak]
          have e1 : (if (true = true ∧ gnT T U i < ((-1, 1000000) : Int × Int).2) then (i, gnT T U i) else ((-1, 1000000) : Int × Int)) = (i, gnT T U i) := if_pos ⟨rfl, by show gnT T U i < 1000000; omega⟩
          rw [e1]
          have e2 : (if ((i, gnT T U i) : Int × Int).1 = -1 then fcT T U (wcT T) else ((i, gnT T U i) : Int × Int).2) = gnT T U i := if_neg (show ¬ i = -1 by omega)
          have e3 : (if ((-1, 1000000) : Int × Int).1 = -1 then fcT T U (wcT T) else ((-1, 1000000) : Int × Int).2) = fcT T U (wcT T) := if_pos rfl
          rw [e2, e3]
          simp (disch := omega) only [b_X3_askVersion_14, j_X3_askVersion_95, j_X3_askVersion_82, rc_ok H.tag, rc_ok G.tag, J_div, J_rem, ev, ef, em, lm8, lm2, lm1, l0, l1, l2, l3, l4, l5, l6, l7, l8, l9, l10, l11, l12, l13, l14, l15, l16, l17, l18, l19, l20, l21, l22, l23, l24, l25, l27, l31, l32, l40, l46, l48, l50, l57, l59, l63, l86, l96, l97, l100, l110, l114, l122, l127, l200, l255, l300, l319, l320, l340, l441, l456, l580, l600, l800, l886, l1206, l1526, J_add, J_sub, J_mul, J_neg, J_lt, J_le, J_eq, jT, jF, iT, iF, eT, eF, aT, aF, ite_true, ite_false, ite_not, bs, bI, cond_true, e10]
        · rw [if_neg (show ¬ ak.1 = -1 by omega)]
          by_cases hlt : gnT T U i < ak.2
          · have e1 : (if (true = true ∧ gnT T U i < ak.2) then (i, gnT T U i) else ak) = (i, gnT T U i) := if_pos ⟨rfl, hlt⟩
            rw [e1]
            have e2 : (if ((i, gnT T U i) : Int × Int).1 = -1 then fcT T U (wcT T) else ((i, gnT T U i) : Int × Int).2) = gnT T U i := if_neg (show ¬ i = -1 by omega)
            rw [e2]
            simp (disch := omega) only [b_X3_askVersion_14, j_X3_askVersion_95, j_X3_askVersion_82, rc_ok H.tag, rc_ok G.tag, J_div, J_rem, ev, ef, em, lm8, lm2, lm1, l0, l1, l2, l3, l4, l5, l6, l7, l8, l9, l10, l11, l12, l13, l14, l15, l16, l17, l18, l19, l20, l21, l22, l23, l24, l25, l27, l31, l32, l40, l46, l48, l50, l57, l59, l63, l86, l96, l97, l100, l110, l114, l122, l127, l200, l255, l300, l319, l320, l340, l441, l456, l580, l600, l800, l886, l1206, l1526, J_add, J_sub, J_mul, J_neg, J_lt, J_le, J_eq, jT, jF, iT, iF, eT, eF, aT, aF, ite_true, ite_false, ite_not, bs, bI, cond_true, e10]
          · have e1 : (if (true = true ∧ gnT T U i < ak.2) then (i, gnT T U i) else ak) = ak := if_neg (fun q => hlt q.2)
            rw [e1, if_neg (show ¬ ak.1 = -1 by omega)]
            simp (disch := omega) only [b_X3_askVersion_14, j_X3_askVersion_95, j_X3_askVersion_82, rc_ok H.tag, rc_ok G.tag, J_div, J_rem, ev, ef, em, lm8, lm2, lm1, l0, l1, l2, l3, l4, l5, l6, l7, l8, l9, l10, l11, l12, l13, l14, l15, l16, l17, l18, l19, l20, l21, l22, l23, l24, l25, l27, l31, l32, l40, l46, l48, l50, l57, l59, l63, l86, l96, l97, l100, l110, l114, l122, l127, l200, l255, l300, l319, l320, l340, l441, l456, l580, l600, l800, l886, l1206, l1526, J_add, J_sub, J_mul, J_neg, J_lt, J_le, J_eq, jT, jF, iT, iF, eT, eF, aT, aF, ite_true, ite_false, ite_not, bs, bI, cond_true]
    · simp (disch := omega) only [b_X3_askVersion_14, lm8, lm2, lm1, l0, l1, l2, l3, l4, l5, l6, l7, l8, l9, l10, l11, l12, l13, l14, l15, l16, l17, l18, l19, l20, l21, l22, l23, l24, l25, l27, l31, l32, l40, l46, l48, l50, l57, l59, l63, l86, l96, l97, l100, l110, l114, l122, l127, l200, l255, l300, l319, l320, l340, l441, l456, l580, l600, l800, l886, l1206, l1526, J_add, J_sub, J_mul, J_neg, J_lt, J_le, J_eq, jT, jF, iT, iF, eT, eF, aT, aF, ite_true, ite_false, ite_not, bs]
end HU
