/-! PURE PART: the bytes and the class's walk over its tokens -/
def aN (P : Int → Bool) : Nat → Int → Nat
  | 0, _ => 0
  | n + 1, i => if P i = true then aN P n (i + 1) + 1 else 0
/-- where a stretch of P from i on ends, L at the latest -/
def adv (P : Int → Bool) (L i : Int) : Int := i + aN P (L - i).toNat i
theorem aN_spec (P : Int → Bool) : ∀ (n : Nat) (i : Int), aN P n i ≤ n ∧ (∀ k : Nat, k < aN P n i → P (i + k) = true) ∧ (aN P n i < n → P (i + aN P n i) = false)
  | 0, i => ⟨Nat.le_refl 0, fun k hk => absurd hk (Nat.not_lt_zero _), fun q => absurd q (Nat.not_lt_zero _)⟩
  | n + 1, i => by
    have ih := aN_spec P n (i + 1)
    unfold aN
    by_cases c : P i = true
    · rw [if_pos c]
      refine ⟨by omega, fun k hk => ?_, fun q => ?_⟩
      · by_cases k0 : k = 0
        · rw [k0]
          simpa using c
        · have := ih.2.1 (k - 1) (by omega)
          rw [show i + 1 + ((k - 1 : Nat) : Int) = i + k by omega] at this
          exact this
      · have := ih.2.2 (by omega)
        rw [show i + 1 + (aN P n (i + 1) : Int) = i + ((aN P n (i + 1) + 1 : Nat) : Int) by omega] at this
        exact this
    · rw [if_neg c]
      exact ⟨Nat.zero_le _, fun k hk => absurd hk (Nat.not_lt_zero _), fun _ => by simpa using c⟩
theorem adv_spec (P : Int → Bool) {L i : Int} (h : i ≤ L) : i ≤ adv P L i ∧ adv P L i ≤ L ∧ (∀ k, i ≤ k → k < adv P L i → P k = true) ∧ (adv P L i < L → P (adv P L i) = false) := by
  obtain ⟨s1, s2, s3⟩ := aN_spec P (L - i).toNat i
  unfold adv
  refine ⟨by omega, by omega, fun k k0 k1 => ?_, fun q => s3 (by omega)⟩
  have := s2 (k - i).toNat (by omega)
  rw [show i + ((k - i).toNat : Int) = k by omega] at this
  exact this
def blB (z : Int) : Bool := decide (z = 10 ∨ z = 32)
def leB (z : Int) : Bool := decide (97 ≤ z ∧ z ≤ 122)
def diB (z : Int) : Bool := decide (48 ≤ z ∧ z ≤ 57)
/-- bytes well formed -/
def BW (B : Int → Int) (L : Int) : Prop := 0 ≤ L ∧ L ≤ 600 ∧ ∀ k, 0 ≤ k → k < 600 → -128 ≤ B k ∧ B k ≤ 127
def TT (t : Tp) (a : Nat) : Prop := t.1 a = 10 ∧ t.2.2 a 0 = a + 1 ∧ TB t (a + 1) 600
def CT (h : Hp) (a : Nat) (B : Int → Int) (L : Int) : Prop := TT (top h) a ∧ BW B L ∧ hE h a 1 = L ∧ ∀ k, 0 ≤ k → k < 600 → hE h (a + 1) k = B k
def Afl (a f b k : Nat) : Prop := b = a ∧ k = f
def ATk (a b k : Nat) : Prop := b = a ∧ (k = 2 ∨ k = 3 ∨ k = 4)
/-- where the token that comes from i on begins, what it is (0 end, 1 letters, 2 a number, 3 a stop, 4 none), where it ends -/
def frF (B : Int → Int) (L i : Int) : Int := adv (fun k => blB (B k)) L i
def toF (B : Int → Int) (L f : Int) : Int := if L ≤ f then f else if leB (B f) = true then adv (fun k => leB (B k)) L f else if diB (B f) = true then adv (fun k => diB (B k)) L f else f + 1
def ckF (B : Int → Int) (L f : Int) : Int := if L ≤ f then 0 else if leB (B f) = true then 1 else if diB (B f) = true then (if 2 < toF B L f - f then 4 else 2) else if B f = 59 then 3 else 4
section TA1
variable {h : Hp} {a : Nat} {B : Int → Int} {L : Int}
theorem alB_ok {n : Nat} {i : Int} (hT : TB (top h) a n) (h0 : 0 ≤ i) (h1 : i < n) (hn : n < 100000) : alB h a (J i) = some (J (hE h a i)) := by
  unfold alB
  rw [if_pos ⟨hT.1, by rw [show hLen h a = n from hT.2]; exact inB_ok h0 h1 hn⟩, J_nat (by omega) (by omega), hE_J]
theorem blen_ok {n : Nat} (hT : TB (top h) a n) (hn : n < 100000) : alen h a 21 = some (J n) := by
  unfold alen
  rw [if_pos (show hTag h a = 21 from hT.1), show hLen h a = n from hT.2]
  exact congrArg some (by first | rfl | simp [J])
theorem CT.tag (H : CT h a B L) : hTag h a = 10 := H.1.1
theorem CT.r0 (H : CT h a B L) : gfR h a 10 0 = some (a + 1) := gfR_ok H.1.1 H.1.2.1
theorem CT.f1 (H : CT h a B L) : gfI h a 10 1 = some (J L) := by
  rw [gfI_ok H.tag]
  exact congrArg (fun z => some (J z)) H.2.2.1
theorem CT.fI (H : CT h a B L) {k : Nat} : gfI h a 10 k = some (J (hE h a k)) := gfI_ok H.tag
theorem CT.frame {A : Nat → Nat → Prop} {h' : Hp} (H : CT h a B L) (F : FR A h h') (n1 : ¬ A a 1) (n2 : ∀ k, ¬ A (a + 1) k) : CT h' a B L := by
  obtain ⟨c1, c2, c3, c4⟩ := H
  exact ⟨by rw [F.1]; exact c1, c2, by rw [F.e n1, c3], fun k k0 k1 => by rw [F.e (n2 _), c4 k k0 k1]⟩
theorem CT.frk {h' : Hp} (H : CT h a B L) (F : FR (ATk a) h h') : CT h' a B L := by
  refine H.frame F ?_ (fun k => ?_) <;> · unfold ATk; omega
theorem CT.frl {h' : Hp} {f : Nat} (H : CT h a B L) (F : FR (Afl a f) h h') (hf : f ≠ 1) : CT h' a B L := by
  refine H.frame F ?_ (fun k => ?_) <;> · unfold Afl; omega
theorem CT.byteAt (H : CT h a B L) {i : Int} (h0 : 0 ≤ i) (h1 : i < 600) : m_X10_byteAt a (J i) h = some (J (B i)) := by
  have e1 : alB h (a + 1) (J i) = some (J (B i)) := by rw [alB_ok H.1.2.2 h0 (by omega) (by omega), H.2.2.2 i h0 h1]
  have e2 : alen h (a + 1) 21 = some (J 600) := blen_ok (n := 600) H.1.2.2 (by decide)
  simp (disch := omega) only [m_X10_byteAt, j_X10_byteAt_23, H.r0, e1, e2, lm8, lm2, lm1, l0, l1, l2, l3, l4, l5, l6, l7, l8, l9, l10, l11, l12, l13, l14, l15, l16, l17, l18, l19, l20, l21, l22, l23, l24, l25, l27, l31, l32, l40, l46, l48, l50, l57, l59, l63, l86, l96, l97, l100, l110, l114, l122, l127, l200, l255, l300, l319, l320, l340, l441, l456, l580, l600, l800, l886, l1206, l1526, J_add, J_sub, J_mul, J_neg, J_lt, J_le, J_eq, jT, jF, iT, iF, eT, eF, aT, aF, ite_true, ite_false, ite_not, bs]
theorem X10_isBlank_ok {z : Int} (h0 : -128 ≤ z) (h1 : z ≤ 255) : m_X10_isBlank (J z) h = some (J (b01 (blB z))) := by
  unfold blB
  by_cases c : z = 10
  · rw [decide_eq_true (Or.inl c)]
    simp (disch := omega) only [m_X10_isBlank, j_X10_isBlank_17, c, lm8, lm2, lm1, l0, l1, l2, l3, l4, l5, l6, l7, l8, l9, l10, l11, l12, l13, l14, l15, l16, l17, l18, l19, l20, l21, l22, l23, l24, l25, l27, l31, l32, l40, l46, l48, l50, l57, l59, l63, l86, l96, l97, l100, l110, l114, l122, l127, l200, l255, l300, l319, l320, l340, l441, l456, l580, l600, l800, l886, l1206, l1526, J_add, J_sub, J_mul, J_neg, J_lt, J_le, J_eq, jT, jF, iT, iF, eT, eF, aT, aF, ite_true, ite_false, ite_not, bs, zb1, b01]
  · have c' : z < 10 ∨ 10 < z := by omega
    by_cases c2 : z = 32
    · rw [decide_eq_true (Or.inr c2)]
      simp (disch := omega) only [m_X10_isBlank, j_X10_isBlank_17, c2, lm8, lm2, lm1, l0, l1, l2, l3, l4, l5, l6, l7, l8, l9, l10, l11, l12, l13, l14, l15, l16, l17, l18, l19, l20, l21, l22, l23, l24, l25, l27, l31, l32, l40, l46, l48, l50, l57, l59, l63, l86, l96, l97, l100, l110, l114, l122, l127, l200, l255, l300, l319, l320, l340, l441, l456, l580, l600, l800, l886, l1206, l1526, J_add, J_sub, J_mul, J_neg, J_lt, J_le, J_eq, jT, jF, iT, iF, eT, eF, aT, aF, ite_true, ite_false, ite_not, bs, zb1, b01]
    · have c3 : z < 32 ∨ 32 < z := by omega
      rw [decide_eq_false (by omega)]
      simp (disch := omega) only [m_X10_isBlank, j_X10_isBlank_17, lm8, lm2, lm1, l0, l1, l2, l3, l4, l5, l6, l7, l8, l9, l10, l11, l12, l13, l14, l15, l16, l17, l18, l19, l20, l21, l22, l23, l24, l25, l27, l31, l32, l40, l46, l48, l50, l57, l59, l63, l86, l96, l97, l100, l110, l114, l122, l127, l200, l255, l300, l319, l320, l340, l441, l456, l580, l600, l800, l886, l1206, l1526, J_add, J_sub, J_mul, J_neg, J_lt, J_le, J_eq, jT, jF, iT, iF, eT, eF, aT, aF, ite_true, ite_false, ite_not, bs, zb0, b01]
      rfl
theorem X10_isLetter_ok {z : Int} (h0 : -128 ≤ z) (h1 : z ≤ 255) : m_X10_isLetter (J z) h = some (J (b01 (leB z))) := by
  unfold leB
  by_cases c : z < 97
  · rw [decide_eq_false (by omega)]
    simp (disch := omega) only [m_X10_isLetter, j_X10_isLetter_17, lm8, lm2, lm1, l0, l1, l2, l3, l4, l5, l6, l7, l8, l9, l10, l11, l12, l13, l14, l15, l16, l17, l18, l19, l20, l21, l22, l23, l24, l25, l27, l31, l32, l40, l46, l48, l50, l57, l59, l63, l86, l96, l97, l100, l110, l114, l122, l127, l200, l255, l300, l319, l320, l340, l441, l456, l580, l600, l800, l886, l1206, l1526, J_add, J_sub, J_mul, J_neg, J_lt, J_le, J_eq, jT, jF, iT, iF, eT, eF, aT, aF, ite_true, ite_false, ite_not, bs, zb0, b01]
    rfl
  · by_cases c2 : 122 < z
    · rw [decide_eq_false (by omega)]
      simp (disch := omega) only [m_X10_isLetter, j_X10_isLetter_17, lm8, lm2, lm1, l0, l1, l2, l3, l4, l5, l6, l7, l8, l9, l10, l11, l12, l13, l14, l15, l16, l17, l18, l19, l20, l21, l22, l23, l24, l25, l27, l31, l32, l40, l46, l48, l50, l57, l59, l63, l86, l96, l97, l100, l110, l114, l122, l127, l200, l255, l300, l319, l320, l340, l441, l456, l580, l600, l800, l886, l1206, l1526, J_add, J_sub, J_mul, J_neg, J_lt, J_le, J_eq, jT, jF, iT, iF, eT, eF, aT, aF, ite_true, ite_false, ite_not, bs, zb0, b01]
      rfl
    · rw [decide_eq_true (by omega)]
      simp (disch := omega) only [m_X10_isLetter, j_X10_isLetter_17, lm8, lm2, lm1, l0, l1, l2, l3, l4, l5, l6, l7, l8, l9, l10, l11, l12, l13, l14, l15, l16, l17, l18, l19, l20, l21, l22, l23, l24, l25, l27, l31, l32, l40, l46, l48, l50, l57, l59, l63, l86, l96, l97, l100, l110, l114, l122, l127, l200, l255, l300, l319, l320, l340, l441, l456, l580, l600, l800, l886, l1206, l1526, J_add, J_sub, J_mul, J_neg, J_lt, J_le, J_eq, jT, jF, iT, iF, eT, eF, aT, aF, ite_true, ite_false, ite_not, bs, zb1, b01]
theorem X10_isDigit_ok {z : Int} (h0 : -128 ≤ z) (h1 : z ≤ 255) : m_X10_isDigit (J z) h = some (J (b01 (diB z))) := by
  unfold diB
  by_cases c : z < 48
  · rw [decide_eq_false (by omega)]
    simp (disch := omega) only [m_X10_isDigit, j_X10_isDigit_17, lm8, lm2, lm1, l0, l1, l2, l3, l4, l5, l6, l7, l8, l9, l10, l11, l12, l13, l14, l15, l16, l17, l18, l19, l20, l21, l22, l23, l24, l25, l27, l31, l32, l40, l46, l48, l50, l57, l59, l63, l86, l96, l97, l100, l110, l114, l122, l127, l200, l255, l300, l319, l320, l340, l441, l456, l580, l600, l800, l886, l1206, l1526, J_add, J_sub, J_mul, J_neg, J_lt, J_le, J_eq, jT, jF, iT, iF, eT, eF, aT, aF, ite_true, ite_false, ite_not, bs, zb0, b01]
    rfl
  · by_cases c2 : 57 < z
    · rw [decide_eq_false (by omega)]
      simp (disch := omega) only [m_X10_isDigit, j_X10_isDigit_17, lm8, lm2, lm1, l0, l1, l2, l3, l4, l5, l6, l7, l8, l9, l10, l11, l12, l13, l14, l15, l16, l17, l18, l19, l20, l21, l22, l23, l24, l25, l27, l31, l32, l40, l46, l48, l50, l57, l59, l63, l86, l96, l97, l100, l110, l114, l122, l127, l200, l255, l300, l319, l320, l340, l441, l456, l580, l600, l800, l886, l1206, l1526, J_add, J_sub, J_mul, J_neg, J_lt, J_le, J_eq, jT, jF, iT, iF, eT, eF, aT, aF, ite_true, ite_false, ite_not, bs, zb0, b01]
      rfl
    · rw [decide_eq_true (by omega)]
      simp (disch := omega) only [m_X10_isDigit, j_X10_isDigit_17, lm8, lm2, lm1, l0, l1, l2, l3, l4, l5, l6, l7, l8, l9, l10, l11, l12, l13, l14, l15, l16, l17, l18, l19, l20, l21, l22, l23, l24, l25, l27, l31, l32, l40, l46, l48, l50, l57, l59, l63, l86, l96, l97, l100, l110, l114, l122, l127, l200, l255, l300, l319, l320, l340, l441, l456, l580, l600, l800, l886, l1206, l1526, J_add, J_sub, J_mul, J_neg, J_lt, J_le, J_eq, jT, jF, iT, iF, eT, eF, aT, aF, ite_true, ite_false, ite_not, bs, zb1, b01]
theorem frL {f : Nat} {z : Int} : FR (Afl a f) h (wE h a f z) := FR.wE (A := Afl a f) (show Afl a f a ((f : Int)).toNat from ⟨rfl, Int.toNat_natCast f⟩)
theorem Afl_k {f : Nat} (hf : f = 2 ∨ f = 3 ∨ f = 4) {b k : Nat} (q : Afl a f b k) : ATk a b k := ⟨q.1, by have := q.2; omega⟩
theorem CT.skip (H : CT h a B L) {i : Int} (hi : hE h a 3 = i) (i0 : 0 ≤ i) (i1 : i ≤ L) (K : Hp → Option Hp) : ∃ h', l_X10_next_8 a K h = K h' ∧ FR (Afl a 3) h h' ∧ hE h' a 3 = frF B L i := by
  have hL := H.2.1
  obtain ⟨s1, s2, s3, s4⟩ := adv_spec (fun k => blB (B k)) i1
  unfold frF
  generalize hn : adv (fun k => blB (B k)) L i = n at *
  obtain ⟨h1, ⟨F1, e1⟩, el⟩ := loop_ex (body := fun (k : Hp → Option Hp) (s : Hp) => b_X10_next_8 a K (fun hq => k hq) s) (s := h) (fun j s => FR (Afl a 3) h s ∧ hE s a 3 = i + j) (fun s => K s) (n - i) (by omega) (by have := hL.2.1; omega) ⟨FR.refl _ _, by rw [hi, Int.add_zero]⟩ (by
    rintro k j s j0 j1 ⟨F, e⟩
    have H' := H.frl F (by omega)
    have hL2 := hL.2.1
    have hB := hL.2.2 (i + j) (by omega) (by omega)
    have hP := s3 (i + j) (by omega) (by omega)
    have e3 : gfI s a 10 3 = some (J (i + j)) := by rw [H'.fI]; exact congrArg (fun z => some (J z)) e
    have ep : pfI s a 10 3 (J (i + j + 1)) = some (wE s a 3 (i + j + 1)) := pfI_ok H'.tag
    refine ⟨wE s a 3 (i + j + 1), ⟨F.trans (frL (f := 3)), ?_⟩, ?_⟩
    · rw [hE_wE (by omega) (by omega) (by omega) (by omega), if_pos ⟨rfl, rfl⟩]
      omega
    · show b_X10_next_8 a K (fun hq => k hq) s = _
      have := hL.2.1
      simp (disch := omega) only [b_X10_next_8, e3, H'.f1, rc_ok H'.tag, H'.byteAt, X10_isBlank_ok, hP, bI, cond_true, ep, lm8, lm2, lm1, l0, l1, l2, l3, l4, l5, l6, l7, l8, l9, l10, l11, l12, l13, l14, l15, l16, l17, l18, l19, l20, l21, l22, l23, l24, l25, l27, l31, l32, l40, l46, l48, l50, l57, l59, l63, l86, l96, l97, l100, l110, l114, l122, l127, l200, l255, l300, l319, l320, l340, l441, l456, l580, l600, l800, l886, l1206, l1526, J_add, J_sub, J_mul, J_neg, J_lt, J_le, J_eq, jT, jF, iT, iF, eT, eF, aT, aF, ite_true, ite_false, ite_not, bs]) (by
    rintro k s ⟨F, e⟩
    have H' := H.frl F (by omega)
    have e3 : gfI s a 10 3 = some (J n) := by rw [H'.fI]; exact congrArg (fun z => some (J z)) (by show hE s a 3 = n; omega)
    show b_X10_next_8 a K (fun hq => k hq) s = _
    have := hL.2.1
    by_cases c : n < L
    · have hB := hL.2.2 n (by omega) (by omega)
      have hP := s4 c
      simp (disch := omega) only [b_X10_next_8, e3, H'.f1, rc_ok H'.tag, H'.byteAt, X10_isBlank_ok, hP, bI, cond_false, lm8, lm2, lm1, l0, l1, l2, l3, l4, l5, l6, l7, l8, l9, l10, l11, l12, l13, l14, l15, l16, l17, l18, l19, l20, l21, l22, l23, l24, l25, l27, l31, l32, l40, l46, l48, l50, l57, l59, l63, l86, l96, l97, l100, l110, l114, l122, l127, l200, l255, l300, l319, l320, l340, l441, l456, l580, l600, l800, l886, l1206, l1526, J_add, J_sub, J_mul, J_neg, J_lt, J_le, J_eq, jT, jF, iT, iF, eT, eF, aT, aF, ite_true, ite_false, ite_not, bs]
    · simp (disch := omega) only [b_X10_next_8, e3, H'.f1, lm8, lm2, lm1, l0, l1, l2, l3, l4, l5, l6, l7, l8, l9, l10, l11, l12, l13, l14, l15, l16, l17, l18, l19, l20, l21, l22, l23, l24, l25, l27, l31, l32, l40, l46, l48, l50, l57, l59, l63, l86, l96, l97, l100, l110, l114, l122, l127, l200, l255, l300, l319, l320, l340, l441, l456, l580, l600, l800, l886, l1206, l1526, J_add, J_sub, J_mul, J_neg, J_lt, J_le, J_eq, jT, jF, iT, iF, eT, eF, aT, aF, ite_true, ite_false, ite_not, bs])
  exact ⟨h1, el, F1, by rw [e1]; omega⟩
end TA1
