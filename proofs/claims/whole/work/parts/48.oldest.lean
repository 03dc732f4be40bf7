/-! PURE PART: the oldest token, both sides -/
theorem old_tab : ∀ v, v < 10 → ∀ m, m < 1024 → Int32.ofInt (m : Nat) &&& (ishlF 2 (Int32.ofInt (v : Nat)) - 1) = Int32.ofInt ((m % 2 ^ (v + 1) : Nat)) := by decide +kernel
section OL
variable {h : Hp} {o : Nat} {T : Int → Int}
/-- how long a token at a place has been there -/
def agT (T : Int → Int) (d v q : Int) : Int := onN (stT T (rwT T d v q) % 2 ^ (v.toNat + 1))
/-- the place of the first greatest, and it -/
def olN : Nat → (Nat → Int) → Int × Int
  | 0, _ => (-1, 0)
  | n + 1, f => if (olN n f).2 < f n then ((n : Int), f n) else olN n f
theorem olN_rg {n : Nat} {f : Nat → Int} (H : ∀ i, i < n → 0 ≤ f i ∧ f i ≤ 10) : -1 ≤ (olN n f).1 ∧ (olN n f).1 < n ∧ 0 ≤ (olN n f).2 ∧ (olN n f).2 ≤ 10 := by
  induction n with
  | zero => exact ⟨(show (-1 : Int) ≤ -1 by decide), (show (-1 : Int) < 0 by decide), (show (0 : Int) ≤ 0 by decide), (show (0 : Int) ≤ 10 by decide)⟩
  | succ n ih =>
    have h1 := ih (fun i hi => H i (by omega))
    have h2 := H n (by omega)
    show -1 ≤ (if (olN n f).2 < f n then ((n : Int), f n) else olN n f).1 ∧ _ ∧ _ ∧ _
    by_cases hc : (olN n f).2 < f n
    · simp only [olN, if_pos hc]
      omega
    · simp only [olN, if_neg hc]
      omega
def oldT (T : Int → Int) (d v : Int) : Int := (olN (lnT T d v).toNat (fun q => agT T d v q)).1
theorem agT_rg (W : AW T) {d v q : Int} (hp : ppT T d v q) : 0 ≤ agT T d v q ∧ agT T d v q ≤ 10 := by
  have hr := W.rw hp
  exact onN_rg _ (Nat.lt_of_le_of_lt (Nat.mod_le _ _) (stT_lt W hr.1 hr.2.1))
theorem CA.oldest (H : CA h o T) {x : Nat} {d v : Int} (hv : vvT T d v) : m_X2_oldest x o (J d) (J v) h = some (J (oldT T d v)) := by
  have h1 := H.wf.vb hv
  have h3 := H.wf.ln hv
  have h5 := H.wf.n5
  unfold m_X2_oldest l_X2_oldest_16 oldT
  refine loop_run (fun i => (J (olN i (fun q => agT T d v q)).1, J (olN i (fun q => agT T d v q)).2, J i)) (lnT T d v).toNat (lt_FUEL (by omega)) (fun k i hi => ?_) (fun k => ?_)
  · have hp : ppT T d v i := ⟨hv, by omega, by omega⟩
    have hr := H.wf.rw hp
    have hm := stT_lt H.wf hr.1 hr.2.1
    have hq : stT T (rwT T d v i) % 2 ^ (v.toNat + 1) < 1024 := Nat.lt_of_le_of_lt (Nat.mod_le _ _) hm
    have hl := old_tab v.toNat (by omega) _ hm
    rw [Int.toNat_of_nonneg h1.2.2.1] at hl
    have hl2 : J (stT T (rwT T d v i) : Nat) &&& (ishlF (J 2) (J v) - J 1) = J ((stT T (rwT T d v i) % 2 ^ (v.toNat + 1) : Nat)) := hl
    have ho := olN_rg (n := i) (f := fun q => agT T d v q) (fun j hj => agT_rg H.wf ⟨hv, by omega, by omega⟩)
    have ha := agT_rg H.wf hp
    have hb := J6_bitCount_ok (h := h) hq
    have hb2 : m_J6_bitCount_0f7a4 (J ((stT T (rwT T d v i) % 2 ^ (v.toNat + 1) : Nat))) h = some (J (agT T d v i)) := hb
    by_cases hc : (olN i (fun q => agT T d v q)).2 < agT T d v i
    · simp (disch := omega) only [b_X2_oldest_16, j_X2_oldest_62, rc_ok H.tag, H.lengthOf hv, H.tokenAt hp, H.stayOf, hl2, hb2, J_le, iF, iT, bS, l1, l2, J_add, Int.natCast_add, Int.cast_ofNat_Int]
      simp only [olN, if_pos hc]
    · simp (disch := omega) only [b_X2_oldest_16, j_X2_oldest_62, rc_ok H.tag, H.lengthOf hv, H.tokenAt hp, H.stayOf, hl2, hb2, J_le, iF, iT, bS, l1, l2, J_add, Int.natCast_add, Int.cast_ofNat_Int]
      simp only [olN, if_neg hc]
  · simp (disch := omega) only [b_X2_oldest_16, rc_ok H.tag, H.lengthOf hv, lm8, lm2, lm1, l0, l1, l2, l3, l4, l5, l6, l7, l8, l9, l10, l11, l12, l13, l14, l15, l16, l17, l18, l19, l20, l21, l22, l23, l24, l25, l27, l31, l32, l40, l46, l48, l50, l57, l59, l63, l86, l96, l97, l100, l110, l114, l122, l127, l200, l255, l300, l319, l320, l340, l441, l456, l580, l600, l800, l886, l1206, l1526, J_add, J_sub, J_mul, J_neg, J_lt, J_le, J_eq, jT, jF, iT, iF, eT, eF, aT, aF, ite_true, ite_false, ite_not, bS, Int.toNat_of_nonneg]
end OL
