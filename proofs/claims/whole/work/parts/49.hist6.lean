/-! PURE PART: words for tests; the oldest token, the longest document, both sides -/
theorem bI {α : Type} {b : Bool} {x y : α} : (if J (b01 b) = J 0 then x else y) = (bif b then y else x) := by
  cases b
  · exact if_pos rfl
  · exact if_neg (by decide)
theorem bN {α : Type} {b : Bool} {x y : α} : (if ¬ J (b01 b) = J 0 then x else y) = (bif b then x else y) := by
  cases b
  · exact if_neg (fun q => q rfl)
  · exact if_pos (by decide)
theorem b1 {α : Type} {b : Bool} {x y : α} : (if J (b01 b) = J 1 then x else y) = (bif b then x else y) := by
  cases b
  · exact if_neg (by decide)
  · exact if_pos rfl
theorem b1N {α : Type} {b : Bool} {x y : α} : (if ¬ J (b01 b) = J 1 then x else y) = (bif b then y else x) := by
  cases b
  · exact if_pos (by decide)
  · exact if_neg (fun q => q rfl)
theorem bJ {b : Bool} : (bif b then J 1 else J 0) = J (b01 b) := by cases b <;> rfl
theorem bJn {b : Bool} : (bif b then J 0 else J 1) = J (b01 (!b)) := by cases b <;> rfl
theorem zbB {b : Bool} : zb (J (b01 b)) = some (J (b01 b)) := by cases b <;> decide
theorem ib01 {p : Prop} {_ : Decidable p} : (if p then J 0 else J 1) = J (b01 (!decide p)) := by
  by_cases h : p
  · simp [h, b01]
  · simp [h, b01]
theorem J_div {a b : Int} (h0 : 0 ≤ a) (h1 : a < 2147483648) (h2 : 0 < b) (h3 : b < 2147483648) : J a / J b = J (a / b) := by
  have e1 : Int32.minValue.toInt = -2147483648 := by decide
  have e2 : Int32.maxValue.toInt = 2147483647 := by decide
  rw [← Int.tdiv_eq_ediv_of_nonneg h0]
  exact (Int32.ofInt_tdiv (by omega) (by omega) (by omega) (by omega)).symm
theorem J_rem {a b : Int} (h0 : 0 ≤ a) (h1 : a < 2147483648) (h2 : 0 < b) (h3 : b < 2147483648) : iremF (J a) (J b) = J (a % b) := by
  unfold iremF
  rw [J_div h0 h1 h2 h3, J_mul, J_sub, Int.emod_def, Int.mul_comm]
theorem old_tab : ∀ v, v < 10 → ∀ m, m < 1024 → Int32.ofInt (m : Nat) &&& (ishlF 2 (Int32.ofInt (v : Nat)) - 1) = Int32.ofInt ((m % 2 ^ (v + 1) : Nat)) := by decide +kernel
/-- the place of the first greatest, and it -/
def olN : Nat → (Nat → Int) → Int × Int
  | 0, _ => (-1, 0)
  | n + 1, f => if (olN n f).2 < f n then ((n : Int), f n) else olN n f
def olZ (n : Int) (f : Int → Int) : Int × Int := olN n.toNat (fun i => f i)
theorem olZ_0 {f : Int → Int} : olZ 0 f = (-1, 0) := rfl
theorem olZ_succ {n : Int} {f : Int → Int} (h : 0 ≤ n) : olZ (n + 1) f = if (olZ n f).2 < f n then (n, f n) else olZ n f := by
  unfold olZ
  rw [show (n + 1).toNat = n.toNat + 1 by omega]
  show (if _ < f (n.toNat : Int) then (((n.toNat : Nat) : Int), f (n.toNat : Int)) else _) = _
  rw [Int.toNat_of_nonneg h]
theorem olZ_rg {n c : Int} {f : Int → Int} (hn : 0 ≤ n) (hc : 0 ≤ c) (H : ∀ i, 0 ≤ i → i < n → 0 ≤ f i ∧ f i ≤ c) : -1 ≤ (olZ n f).1 ∧ (olZ n f).1 < n ∧ 0 ≤ (olZ n f).2 ∧ (olZ n f).2 ≤ c ∧ ((olZ n f).1 = -1 → (olZ n f).2 = 0) ∨ n = 0 := by
  have key : ∀ k : Nat, (k : Int) ≤ n → k = 0 ∨ -1 ≤ (olZ k f).1 ∧ (olZ k f).1 < k ∧ 0 ≤ (olZ k f).2 ∧ (olZ k f).2 ≤ c ∧ ((olZ k f).1 = -1 → (olZ k f).2 = 0) := by
    intro k
    induction k with
    | zero => intro _; exact Or.inl rfl
    | succ k ih =>
      intro hk
      refine Or.inr ?_
      have h2 := H k (by omega) (by omega)
      rw [show ((k + 1 : Nat) : Int) = (k : Int) + 1 by omega, olZ_succ (by omega)]
      by_cases hcs : (olZ k f).2 < f k
      · rw [if_pos hcs]
        dsimp only
        omega
      · rw [if_neg hcs]
        rcases ih (by omega) with rfl | h3
        · rw [show ((0 : Nat) : Int) = 0 from rfl, olZ_0]
          dsimp only
          omega
        · omega
  have := key n.toNat (by omega)
  rw [Int.toNat_of_nonneg hn] at this
  omega
section H6
variable {h : Hp} {o : Nat} {T : Int → Int}
theorem X12_greater_ok {a b : Int} (h1 : -2147483648 ≤ a) (h2 : a < 2147483648) (h3 : -2147483648 ≤ b) (h4 : b < 2147483648) : m_X12_greater (J a) (J b) h = some (J (max a b)) := by
  unfold m_X12_greater j_X12_greater_10
  by_cases hc : a ≤ b
  · simp (disch := omega) only [J_le, iT, Int.max_eq_right]
  · simp (disch := omega) only [J_le, iF, Int.max_eq_left]
theorem X12_lesser_ok {a b : Int} (h1 : -2147483648 ≤ a) (h2 : a < 2147483648) (h3 : -2147483648 ≤ b) (h4 : b < 2147483648) : m_X12_lesser (J a) (J b) h = some (J (min a b)) := by
  unfold m_X12_lesser j_X12_lesser_10
  by_cases hc : b ≤ a
  · simp (disch := omega) only [J_le, iT, Int.min_eq_right]
  · simp (disch := omega) only [J_le, iF, Int.min_eq_left]
/-- how long a token at a place has been there -/
def agT (T : Int → Int) (d v q : Int) : Int := onN (stT T (rwT T d v q) % 2 ^ (v.toNat + 1))
theorem agT_rg (W : AW T) {d v q : Int} (hp : ppT T d v q) : 0 ≤ agT T d v q ∧ agT T d v q ≤ 10 := by
  have hr := W.rw hp
  exact onN_rg _ (Nat.lt_of_le_of_lt (Nat.mod_le _ _) (stT_lt W hr.1 hr.2.1))
theorem old_at (W : AW T) {d v q : Int} (hp : ppT T d v q) : J (stT T (rwT T d v q) : Nat) &&& (ishlF (2 : Int32) (J v) - (1 : Int32)) = J ((stT T (rwT T d v q) % 2 ^ (v.toNat + 1) : Nat)) := by
  have hr := W.rw hp
  have h1 := W.vb hp.1
  have hm := stT_lt W hr.1 hr.2.1
  have hl := old_tab v.toNat (by omega) _ hm
  rw [Int.toNat_of_nonneg h1.2.2.1] at hl
  exact hl
theorem ag_bits (W : AW T) {d v q : Int} (hp : ppT T d v q) : m_J6_bitCount_0f7a4 (J ((stT T (rwT T d v q) % 2 ^ (v.toNat + 1) : Nat))) h = some (J (agT T d v q)) := by
  have hr := W.rw hp
  unfold agT
  exact J6_bitCount_ok (Nat.lt_of_le_of_lt (Nat.mod_le _ _) (stT_lt W hr.1 hr.2.1))
theorem ag_ones (W : AW T) {d v q : Int} (hp : ppT T d v q) : m_X12_ones (J ((stT T (rwT T d v q) % 2 ^ (v.toNat + 1) : Nat))) h = some (J (agT T d v q)) := by
  have hr := W.rw hp
  unfold agT
  exact X12_ones_ok (Nat.lt_of_le_of_lt (Nat.mod_le _ _) (stT_lt W hr.1 hr.2.1))
def oldT (T : Int → Int) (d v : Int) : Int := (olZ (lnT T d v) (fun q => agT T d v q)).1
theorem ol_rg (W : AW T) {d v i : Int} (hv : vvT T d v) (h0 : 0 ≤ i) (h1 : i ≤ lnT T d v) : -1 ≤ (olZ i (fun q => agT T d v q)).1 ∧ (olZ i (fun q => agT T d v q)).1 < 20 ∧ 0 ≤ (olZ i (fun q => agT T d v q)).2 ∧ (olZ i (fun q => agT T d v q)).2 ≤ 10 := by
  have hl := W.ln hv
  rcases olZ_rg (n := i) (c := 10) (f := fun q => agT T d v q) h0 (by omega) (fun j a b => agT_rg W ⟨hv, a, by omega⟩) with hr | hr
  · omega
  · subst hr
    rw [olZ_0]
    dsimp only
    omega
theorem CA.oldStep (H : CA h o T) {d v i A B : Int} (hv : vvT T d v) (hp : ppT T d v i) (hB : 0 ≤ B ∧ B ≤ 10) (k : Int32 → Int32 → Int32 → Option Int32) : b_X2_oldest_16 o (J d) (J v) (ishlF (2 : Int32) (J v) - (1 : Int32)) h k (J A) (J B) (J i) = if B < agT T d v i then k (J i) (J (agT T d v i)) (J (i + 1)) else k (J A) (J B) (J (i + 1)) := by
  have h3 := H.wf.ln hv
  have h5 := H.wf.n5
  have h0 := hp.2
  have hr := H.wf.rw hp
  have ha := agT_rg H.wf hp
  have e1 := old_at H.wf hp
  have e2 := ag_bits (h := h) H.wf hp
  generalize agT T d v i = a at *
  generalize (ishlF (2 : Int32) (J v) - (1 : Int32)) = M at *
  generalize J ((stT T (rwT T d v i) % 2 ^ (v.toNat + 1) : Nat)) = m at *
  by_cases hc : B < a
  · rw [if_pos hc]
    simp (disch := omega) only [b_X2_oldest_16, j_X2_oldest_62, rc_ok H.tag, H.lengthOf hv, H.tokenAt hp, H.stayOf, e1, e2, J_le, iF, iT, bs]
    simp only [l1, J_add]
  · rw [if_neg hc]
    simp (disch := omega) only [b_X2_oldest_16, j_X2_oldest_62, rc_ok H.tag, H.lengthOf hv, H.tokenAt hp, H.stayOf, e1, e2, J_le, iF, iT, bs]
    simp only [l1, J_add]
theorem CA.oldest (H : CA h o T) {x : Nat} {d v : Int} (hv : vvT T d v) : m_X2_oldest x o (J d) (J v) h = some (J (oldT T d v)) := by
  have h1 := H.wf.vb hv
  have h3 := H.wf.ln hv
  have h5 := H.wf.n5
  unfold m_X2_oldest l_X2_oldest_16 oldT
  refine loop_int (fun i => (J (olZ i (fun q => agT T d v q)).1, J (olZ i (fun q => agT T d v q)).2, J i)) (lnT T d v) h3.1 (by omega) rfl (fun k i hi hi2 => ?_) (fun k => ?_)
  · have hp : ppT T d v i := ⟨hv, hi, hi2⟩
    have ho := ol_rg H.wf hv hi (by omega)
    rw [olZ_succ hi]
    refine (H.oldStep hv hp ⟨ho.2.2.1, ho.2.2.2⟩ _).trans ?_
    by_cases hc : (olZ i (fun q => agT T d v q)).2 < agT T d v i
    · rw [if_pos hc, if_pos hc]
    · rw [if_neg hc, if_neg hc]
  · simp (disch := omega) only [b_X2_oldest_16, rc_ok H.tag, H.lengthOf hv, J_le, iT, bs]
theorem RM.oldStep (H : RM h o T) {d v i A B : Int} (hv : vvT T d v) (hp : ppT T d v i) (hB : 0 ≤ B ∧ B ≤ 10) (k : Int32 → Int32 → Int32 → Option Int32) : b_X12_oldest_8 o (J d) (J v) h k (J A) (J B) (J i) = if B < agT T d v i then k (J i) (J (agT T d v i)) (J (i + 1)) else k (J A) (J B) (J (i + 1)) := by
  have h1 := H.wf.vb hv
  have h3 := H.wf.ln hv
  have h5 := H.wf.n5
  have h0 := hp.2
  have hr := H.wf.rw hp
  have ha := agT_rg H.wf hp
  have e1 := old_at H.wf hp
  have e2 := ag_ones (h := h) H.wf hp
  generalize agT T d v i = a at *
  generalize J ((stT T (rwT T d v i) % 2 ^ (v.toNat + 1) : Nat)) = m at *
  by_cases hc : B < a
  · rw [if_pos hc]
    simp (disch := omega) only [b_X12_oldest_8, j_X12_oldest_55, rc_ok H.tag, H.longOf, H.tokenAt, H.whereIs, e1, e2, X12_greater_ok, J_le, iF, iT, bs]
    simp (disch := omega) only [l1, J_add, Int.max_eq_right]
  · rw [if_neg hc]
    simp (disch := omega) only [b_X12_oldest_8, j_X12_oldest_55, rc_ok H.tag, H.longOf, H.tokenAt, H.whereIs, e1, e2, X12_greater_ok, J_le, iF, iT, bs]
    simp (disch := omega) only [l1, J_add, Int.max_eq_left]
theorem RM.oldest (H : RM h o T) {d v : Int} (hv : vvT T d v) : m_X12_oldest o (J d) (J v) h = some (J (oldT T d v)) := by
  have h1 := H.wf.vb hv
  have h3 := H.wf.ln hv
  have h5 := H.wf.n5
  unfold m_X12_oldest l_X12_oldest_8 oldT
  refine loop_int (fun i => (J (olZ i (fun q => agT T d v q)).1, J (olZ i (fun q => agT T d v q)).2, J i)) (lnT T d v) h3.1 (by omega) rfl (fun k i hi hi2 => ?_) (fun k => ?_)
  · have hp : ppT T d v i := ⟨hv, hi, hi2⟩
    have ho := ol_rg H.wf hv hi (by omega)
    rw [olZ_succ hi]
    refine (H.oldStep hv hp ⟨ho.2.2.1, ho.2.2.2⟩ _).trans ?_
    by_cases hc : (olZ i (fun q => agT T d v q)).2 < agT T d v i
    · rw [if_pos hc, if_pos hc]
    · rw [if_neg hc, if_neg hc]
  · simp (disch := omega) only [b_X12_oldest_8, rc_ok H.tag, H.longOf, J_le, iT, bs]
/-- the first of the greatest -/
def lgN : Nat → (Int → Int) → Int
  | 0, _ => -1
  | n + 1, f => if lgN n f = -1 ∨ f (lgN n f) < f n then (n : Int) else lgN n f
def lgZ (n : Int) (f : Int → Int) : Int := lgN n.toNat f
theorem lgZ_succ {n : Int} {f : Int → Int} (h : 0 ≤ n) : lgZ (n + 1) f = if lgZ n f = -1 ∨ f (lgZ n f) < f n then n else lgZ n f := by
  unfold lgZ
  rw [show (n + 1).toNat = n.toNat + 1 by omega]
  show (if _ ∨ _ < f (n.toNat : Int) then ((n.toNat : Nat) : Int) else _) = _
  rw [Int.toNat_of_nonneg h]
theorem lgN_rg (n : Nat) (f : Int → Int) : (n = 0 ∧ lgN n f = -1) ∨ (0 ≤ lgN n f ∧ lgN n f < n) := by
  induction n with
  | zero => exact Or.inl ⟨rfl, rfl⟩
  | succ n ih =>
    refine Or.inr ?_
    show 0 ≤ (if _ then (n : Int) else _) ∧ (if _ then (n : Int) else _) < _
    split <;> omega
theorem lgZ_rg {n : Int} {f : Int → Int} (h : 0 ≤ n) : (n = 0 ∧ lgZ n f = -1) ∨ (0 ≤ lgZ n f ∧ lgZ n f < n) := by
  unfold lgZ
  rcases lgN_rg n.toNat f with h1 | h1
  · exact Or.inl ⟨by omega, h1.2⟩
  · exact Or.inr ⟨by omega, by omega⟩
/-- how many words the latest version has -/
def llT (T : Int → Int) (d : Int) : Int := lnT T d (T (1 + d) - 1)
theorem AW.la (W : AW T) {d : Int} (h1 : 0 ≤ d) (h2 : d < T 0) : vvT T d (T (1 + d) - 1) := by
  have := W.2.1 d h1 h2
  exact ⟨h1, h2, by omega, by omega⟩
theorem AW.ll (W : AW T) {d : Int} (h1 : 0 ≤ d) (h2 : d < T 0) : 0 ≤ llT T d ∧ llT T d ≤ 20 := W.ln (W.la h1 h2)
theorem CA.longestDoc (H : CA h o T) {x : Nat} : m_X2_longestDocument x o h = some (J (lgZ (T 0) (llT T))) := by
  have h0 := H.wf.n0
  unfold m_X2_longestDocument l_X2_longestDocument_4
  refine loop_int (fun i => (J (lgZ i (llT T)), J i)) (T 0) h0.1 (by omega) rfl (fun k i hi hi2 => ?_) (fun k => ?_)
  · have hl := H.wf.ll hi hi2
    have e1 : m_X0_latestLength o (J i) h = some (J (llT T i)) := H.latestLengthT hi hi2
    rw [lgZ_succ hi]
    rcases lgZ_rg (f := llT T) hi with hg | hg
    · rw [if_pos (Or.inl hg.2)]
      simp (disch := omega) only [b_X2_longestDocument_4, j_X2_longestDocument_30, j_X2_longestDocument_32, H.f0, hg.2, lm8, lm2, lm1, l0, l1, l2, l3, l4, l5, l6, l7, l8, l9, l10, l11, l12, l13, l14, l15, l16, l17, l18, l19, l20, l21, l22, l23, l24, l25, l27, l31, l32, l40, l46, l48, l50, l57, l59, l63, l86, l96, l97, l100, l110, l114, l122, l127, l200, l255, l300, l319, l320, l340, l441, l456, l580, l600, l800, l886, l1206, l1526, J_add, J_sub, J_mul, J_neg, J_lt, J_le, J_eq, jT, jF, iT, iF, eT, eF, aT, aF, ite_true, ite_false, ite_not, bs]
    · have hl2 := H.wf.ll hg.1 (by omega)
      have e2 : m_X0_latestLength o (J (lgZ i (llT T))) h = some (J (llT T (lgZ i (llT T)))) := H.latestLengthT hg.1 (by omega)
      by_cases hc : llT T (lgZ i (llT T)) < llT T i
      · rw [if_pos (Or.inr hc)]
        simp (disch := omega) only [b_X2_longestDocument_4, j_X2_longestDocument_30, j_X2_longestDocument_32, H.f0, rc_ok H.tag, e1, e2, lm8, lm2, lm1, l0, l1, l2, l3, l4, l5, l6, l7, l8, l9, l10, l11, l12, l13, l14, l15, l16, l17, l18, l19, l20, l21, l22, l23, l24, l25, l27, l31, l32, l40, l46, l48, l50, l57, l59, l63, l86, l96, l97, l100, l110, l114, l122, l127, l200, l255, l300, l319, l320, l340, l441, l456, l580, l600, l800, l886, l1206, l1526, J_add, J_sub, J_mul, J_neg, J_lt, J_le, J_eq, jT, jF, iT, iF, eT, eF, aT, aF, ite_true, ite_false, ite_not, bs]
      · rw [if_neg (by omega)]
        simp (disch := omega) only [b_X2_longestDocument_4, j_X2_longestDocument_30, j_X2_longestDocument_32, H.f0, rc_ok H.tag, e1, e2, lm8, lm2, lm1, l0, l1, l2, l3, l4, l5, l6, l7, l8, l9, l10, l11, l12, l13, l14, l15, l16, l17, l18, l19, l20, l21, l22, l23, l24, l25, l27, l31, l32, l40, l46, l48, l50, l57, l59, l63, l86, l96, l97, l100, l110, l114, l122, l127, l200, l255, l300, l319, l320, l340, l441, l456, l580, l600, l800, l886, l1206, l1526, J_add, J_sub, J_mul, J_neg, J_lt, J_le, J_eq, jT, jF, iT, iF, eT, eF, aT, aF, ite_true, ite_false, ite_not, bs]
  · simp (disch := omega) only [b_X2_longestDocument_4, H.f0, lm8, lm2, lm1, l0, l1, l2, l3, l4, l5, l6, l7, l8, l9, l10, l11, l12, l13, l14, l15, l16, l17, l18, l19, l20, l21, l22, l23, l24, l25, l27, l31, l32, l40, l46, l48, l50, l57, l59, l63, l86, l96, l97, l100, l110, l114, l122, l127, l200, l255, l300, l319, l320, l340, l441, l456, l580, l600, l800, l886, l1206, l1526, J_add, J_sub, J_mul, J_neg, J_lt, J_le, J_eq, jT, jF, iT, iF, eT, eF, aT, aF, ite_true, ite_false, ite_not, bs]
theorem RM.longest (H : RM h o T) : m_X12_longest o h = some (J (lgZ (T 0) (llT T))) := by
  have h0 := H.wf.n0
  unfold m_X12_longest l_X12_longest_4
  refine loop_int (fun i => (J (lgZ i (llT T)), J i)) (T 0) h0.1 (by omega) rfl (fun k i hi hi2 => ?_) (fun k => ?_)
  · have hl := H.wf.ll hi hi2
    have hv := H.wf.vb (H.wf.la hi hi2)
    have e1 : m_X12_longOf o (J i) (J (T (1 + i) - 1)) h = some (J (llT T i)) := H.longOf (by omega) (by omega)
    rw [lgZ_succ hi]
    rcases lgZ_rg (f := llT T) hi with hg | hg
    · rw [if_pos (Or.inl hg.2)]
      simp (disch := omega) only [b_X12_longest_4, j_X12_longest_51, H.1.r18, H.told, hg.2, lm8, lm2, lm1, l0, l1, l2, l3, l4, l5, l6, l7, l8, l9, l10, l11, l12, l13, l14, l15, l16, l17, l18, l19, l20, l21, l22, l23, l24, l25, l27, l31, l32, l40, l46, l48, l50, l57, l59, l63, l86, l96, l97, l100, l110, l114, l122, l127, l200, l255, l300, l319, l320, l340, l441, l456, l580, l600, l800, l886, l1206, l1526, J_add, J_sub, J_mul, J_neg, J_lt, J_le, J_eq, jT, jF, iT, iF, eT, eF, aT, aF, ite_true, ite_false, ite_not, bs]
    · have hl2 := H.wf.ll hg.1 (by omega)
      have hv2 := H.wf.vb (H.wf.la hg.1 (by omega))
      have e2 : m_X12_longOf o (J (lgZ i (llT T))) (J (T (1 + lgZ i (llT T)) - 1)) h = some (J (llT T (lgZ i (llT T)))) := H.longOf (by omega) (by omega)
      by_cases hc : llT T (lgZ i (llT T)) < llT T i
      · rw [if_pos (Or.inr hc)]
        simp (disch := omega) only [b_X12_longest_4, j_X12_longest_51, H.1.r18, H.told, H.versions, rc_ok H.tag, e1, e2, lm8, lm2, lm1, l0, l1, l2, l3, l4, l5, l6, l7, l8, l9, l10, l11, l12, l13, l14, l15, l16, l17, l18, l19, l20, l21, l22, l23, l24, l25, l27, l31, l32, l40, l46, l48, l50, l57, l59, l63, l86, l96, l97, l100, l110, l114, l122, l127, l200, l255, l300, l319, l320, l340, l441, l456, l580, l600, l800, l886, l1206, l1526, J_add, J_sub, J_mul, J_neg, J_lt, J_le, J_eq, jT, jF, iT, iF, eT, eF, aT, aF, ite_true, ite_false, ite_not, bs]
      · rw [if_neg (by omega)]
        simp (disch := omega) only [b_X12_longest_4, j_X12_longest_51, H.1.r18, H.told, H.versions, rc_ok H.tag, e1, e2, lm8, lm2, lm1, l0, l1, l2, l3, l4, l5, l6, l7, l8, l9, l10, l11, l12, l13, l14, l15, l16, l17, l18, l19, l20, l21, l22, l23, l24, l25, l27, l31, l32, l40, l46, l48, l50, l57, l59, l63, l86, l96, l97, l100, l110, l114, l122, l127, l200, l255, l300, l319, l320, l340, l441, l456, l580, l600, l800, l886, l1206, l1526, J_add, J_sub, J_mul, J_neg, J_lt, J_le, J_eq, jT, jF, iT, iF, eT, eF, aT, aF, ite_true, ite_false, ite_not, bs]
  · simp (disch := omega) only [b_X12_longest_4, H.1.r18, H.told, lm8, lm2, lm1, l0, l1, l2, l3, l4, l5, l6, l7, l8, l9, l10, l11, l12, l13, l14, l15, l16, l17, l18, l19, l20, l21, l22, l23, l24, l25, l27, l31, l32, l40, l46, l48, l50, l57, l59, l63, l86, l96, l97, l100, l110, l114, l122, l127, l200, l255, l300, l319, l320, l340, l441, l456, l580, l600, l800, l886, l1206, l1526, J_add, J_sub, J_mul, J_neg, J_lt, J_le, J_eq, jT, jF, iT, iF, eT, eF, aT, aF, ite_true, ite_false, ite_not, bs]
end H6
