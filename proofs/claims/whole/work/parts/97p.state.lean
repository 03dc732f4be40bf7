/-! PURE PART: the state, both sides -/
abbrev Sx : Type := (Int → Int) × Int × Int × Int × (Int → Int) × (Int → Int → Int) × (Int → Int → Int) × (Int → Int → Int)
def sB (S : Sx) : Int → Int := S.1
def sL (S : Sx) : Int := S.2.1
def sF (S : Sx) : Int := S.2.2.1
def sP (S : Sx) : Int := S.2.2.2.1
def sN (S : Sx) : Int → Int := S.2.2.2.2.1
def sT (S : Sx) : Int → Int → Int := S.2.2.2.2.2.1
def sQ (S : Sx) : Int → Int → Int := S.2.2.2.2.2.2.1
def sU (S : Sx) : Int → Int → Int := S.2.2.2.2.2.2.2
/-- well formed -/
def SW (S : Sx) : Prop := BW (sB S) (sL S) ∧ (0 ≤ sF S ∧ sF S ≤ 4 ∧ -1 ≤ sP S ∧ sP S ≤ 600) ∧ (∀ k, 0 ≤ k → k < 3 → 0 ≤ sN S k ∧ sN S k ≤ 2) ∧ ∀ i : Int, 0 ≤ i → i < 2 → (i < sN S 0 → AW (sT S i) ∧ DW (sT S i) ∧ sT S i 5 ≤ 279) ∧ (i < sN S 1 → QW (sQ S i)) ∧ (i < sN S 2 → HWf (sU S i))
/-- the class's State: its shape -/
def TS9 (t : Tp) (s : Nat) : Prop := t.1 s = 9 ∧ (t.2.2 s 0 = s + 1 ∧ TT t (s + 1)) ∧ (t.2.2 s 3 = s + 3 ∧ TI t (s + 3) 3) ∧ (t.2.2 s 4 = s + 4 ∧ t.1 (s + 4) = 24 ∧ t.2.1 (s + 4) = 2) ∧ (t.2.2 s 5 = s + 5 ∧ t.1 (s + 5) = 25 ∧ t.2.1 (s + 5) = 2) ∧ (t.2.2 s 6 = s + 6 ∧ t.1 (s + 6) = 26 ∧ t.2.1 (s + 6) = 2) ∧ ∀ i : Nat, i < 2 → (t.2.2 (s + 4) i = s + 7 + 17 * i ∧ TA t (s + 7 + 17 * i)) ∧ (t.2.2 (s + 5) i = s + 17 + 17 * i ∧ TQ t (s + 17 + 17 * i)) ∧ t.2.2 (s + 6) i = s + 22 + 17 * i ∧ TU t (s + 22 + 17 * i)
/-- the class's State at s shows S -/
def CS (h : Hp) (s : Nat) (S : Sx) : Prop := TS9 (top h) s ∧ CT h (s + 1) (sB S) (sL S) ∧ hE h s 1 = sF S ∧ hE h s 2 = sP S ∧ (∀ k, 0 ≤ k → k < 3 → hE h (s + 3) k = sN S k) ∧ ∀ i : Nat, i < 2 → ((i : Int) < sN S 0 → CA h (s + 7 + 17 * i) (sT S i) ∧ DA h (s + 7 + 17 * i) (sT S i) ∧ CW h (s + 7 + 17 * i) (sT S i)) ∧ ((i : Int) < sN S 1 → QA h (s + 17 + 17 * i) (sQ S i)) ∧ ((i : Int) < sN S 2 → HA h (s + 22 + 17 * i) (sU S i))
/-- the reference's image j shows S -/
def RS (h : Hp) (o : Nat) (j : Int) (S : Sx) : Prop := TR (top h) o ∧ (∀ k, 0 ≤ k → k < 600 → hE h (o + 1) (600 * j + k) = sB S k) ∧ hE h (o + 2) j = sL S ∧ hE h (o + 3) j = sF S ∧ hE h (o + 4) j = sP S ∧ (∀ k, 0 ≤ k → k < 3 → hE h (o + 5) (3 * j + k) = sN S k) ∧ (∀ i : Int, 0 ≤ i → i < 2 → i < sN S 0 → ∀ c, 0 ≤ c → c < 1526 → hE h (o + 6) (3052 * j + (1526 * i + c)) = sT S i c) ∧ (∀ i : Int, 0 ≤ i → i < 2 → i < sN S 1 → ∀ c, 0 ≤ c → c < 57 → hE h (o + 7) (114 * j + (57 * i + c)) = sQ S i c) ∧ ∀ i : Int, 0 ≤ i → i < 2 → i < sN S 2 → ∀ c, 0 ≤ c → c < 25 → hE h (o + 8) (50 * j + (25 * i + c)) = sU S i c
def ndB (S : Sx) (t a : Int) : Bool := decide (0 ≤ a ∧ a < sN S t)
section ST
variable {h : Hp} {s o : Nat} {S : Sx}
theorem CW.frame {A : Nat → Nat → Prop} {h' : Hp} {c : Nat} {T : Int → Int} (C : CW h c T) (F : FR A h h') (n0 : ¬ A c 2) (n1 : ∀ k, ¬ A (c + 8) k) (n2 : ∀ k, ¬ A (c + 9) k) : CW h' c T := by
  obtain ⟨c1, c2⟩ := C
  exact ⟨by rw [F.e n0, c1], fun i i0 i1 => ⟨by rw [F.e (n1 _), (c2 i i0 i1).1], by rw [F.l (n2 _), (c2 i i0 i1).2]⟩⟩
theorem CS.frame {A : Nat → Nat → Prop} {h' : Hp} (C : CS h s S) (F : FR A h h') (n : ∀ b k, s ≤ b → b ≤ s + 40 → A b k → b = s + 1 ∧ (k = 2 ∨ k = 3 ∨ k = 4)) : CS h' s S := by
  obtain ⟨c1, c2, c3, c4, c5, c6⟩ := C
  have nn : ∀ b k, s ≤ b → b ≤ s + 40 → (b ≠ s + 1 ∨ k = 1) → ¬ A b k := fun b k b0 b1 d q => by
    have := n b k b0 b1 q
    omega
  refine ⟨by rw [F.1]; exact c1, c2.frame F (nn _ _ (by omega) (by omega) (by omega)) (fun k => nn _ _ (by omega) (by omega) (by omega)), ?_, ?_, fun k k0 k1 => ?_, fun i hi => ⟨fun q => ?_, fun q => ?_, fun q => ?_⟩⟩
  · rw [F.e (nn _ _ (by omega) (by omega) (by omega)), c3]
  · rw [F.e (nn _ _ (by omega) (by omega) (by omega)), c4]
  · rw [F.e (nn _ _ (by omega) (by omega) (by omega)), c5 k k0 k1]
  · obtain ⟨a1, a2, a3⟩ := (c6 i hi).1 q
    refine ⟨?_, ⟨a2.1, fun d v hv => by rw [F.e (nn _ _ (by omega) (by omega) (by omega)), a2.2 d v hv]⟩, ?_⟩
    · refine a1.frame F ?_ ?_ (fun k => ?_) (fun k => ?_) (fun k => ?_) (fun k => ?_) (fun k => ?_) (fun k => ?_) <;> exact nn _ _ (by omega) (by omega) (by omega)
    · refine a3.frame F ?_ (fun k => ?_) (fun k => ?_) <;> exact nn _ _ (by omega) (by omega) (by omega)
  · refine ((c6 i hi).2.1 q).frame F ?_ (fun k => ?_) (fun k => ?_) (fun k => ?_) (fun k => ?_) <;> exact nn _ _ (by omega) (by omega) (by omega)
  · refine ((c6 i hi).2.2 q).frame F ?_ (fun k => ?_) <;> exact nn _ _ (by omega) (by omega) (by omega)
theorem RS.frame {A : Nat → Nat → Prop} {h' : Hp} {j : Int} (C : RS h o j S) (F : FR A h h') (n : ∀ b k, o + 1 ≤ b → b ≤ o + 8 → ¬ A b k) : RS h' o j S := by
  obtain ⟨c1, c2, c3, c4, c5, c6, c7, c8, c9⟩ := C
  refine ⟨by rw [F.1]; exact c1, fun k k0 k1 => ?_, ?_, ?_, ?_, fun k k0 k1 => ?_, fun i i0 i1 q c d0 d1 => ?_, fun i i0 i1 q c d0 d1 => ?_, fun i i0 i1 q c d0 d1 => ?_⟩
  · rw [F.e (n _ _ (by omega) (by omega)), c2 k k0 k1]
  · rw [F.e (n _ _ (by omega) (by omega)), c3]
  · rw [F.e (n _ _ (by omega) (by omega)), c4]
  · rw [F.e (n _ _ (by omega) (by omega)), c5]
  · rw [F.e (n _ _ (by omega) (by omega)), c6 k k0 k1]
  · rw [F.e (n _ _ (by omega) (by omega)), c7 i i0 i1 q c d0 d1]
  · rw [F.e (n _ _ (by omega) (by omega)), c8 i i0 i1 q c d0 d1]
  · rw [F.e (n _ _ (by omega) (by omega)), c9 i i0 i1 q c d0 d1]
theorem CS.tag (C : CS h s S) : hTag h s = 9 := C.1.1
theorem CS.r0 (C : CS h s S) : gfR h s 9 0 = some (s + 1) := gfR_ok C.1.1 C.1.2.1.1
theorem CS.r3 (C : CS h s S) : gfR h s 9 3 = some (s + 3) := gfR_ok C.1.1 C.1.2.2.1.1
theorem CS.r4 (C : CS h s S) : gfR h s 9 4 = some (s + 4) := gfR_ok C.1.1 C.1.2.2.2.1.1
theorem CS.r5 (C : CS h s S) : gfR h s 9 5 = some (s + 5) := gfR_ok C.1.1 C.1.2.2.2.2.1.1
theorem CS.r6 (C : CS h s S) : gfR h s 9 6 = some (s + 6) := gfR_ok C.1.1 C.1.2.2.2.2.2.1.1
theorem alR_ok {a t n : Nat} {i : Int} (ht : hTag h a = t) (hn : hLen h a = n) (n9 : n < 100000) (i0 : 0 ≤ i) (i1 : i < n) : alR h a t (J i) = some (hR h a i.toNat) := by
  unfold alR
  rw [if_pos ⟨ht, by rw [hn]; exact inB_ok i0 i1 n9⟩, J_nat (by omega) (by omega)]
theorem CS.howMany (C : CS h s S) {t : Int} (t0 : 0 ≤ t) (t1 : t < 3) : m_X9_howMany s (J t) h = some (J (sN S t)) := by
  unfold m_X9_howMany
  rw [C.r3, bs, X5_at_ok C.1.2.2.1.2 (by omega) (by omega) (by omega), bs, atE_in t0 (by omega), C.2.2.2.2.1 t t0 t1]
theorem CS.isTold (C : CS h s S) (W : SW S) {t a : Int} (t0 : 0 ≤ t) (t1 : t < 3) (a0 : -2147483648 ≤ a) (a1 : a < 2147483648) : m_X9_isTold s (J t) (J a) h = some (J (b01 (ndB S t a))) := by
  have hm := C.howMany t0 t1
  have n2 := W.2.2.1 t t0 t1
  unfold ndB
  by_cases c1 : a < 0
  · rw [decide_eq_false (by omega)]
    simp (disch := omega) only [m_X9_isTold, j_X9_isTold_23, zb0, lm8, lm2, lm1, l0, l1, l2, l3, l4, l5, l6, l7, l8, l9, l10, l11, l12, l13, l14, l15, l16, l17, l18, l19, l20, l21, l22, l23, l24, l25, l27, l31, l32, l40, l46, l48, l50, l57, l59, l63, l86, l96, l97, l100, l110, l114, l122, l127, l200, l255, l300, l319, l320, l340, l441, l456, l580, l600, l800, l886, l1206, l1526, J_add, J_sub, J_mul, J_neg, J_lt, J_le, J_eq, jT, jF, iT, iF, eT, eF, aT, aF, ite_true, ite_false, ite_not, bs]
    rfl
  · by_cases c2 : sN S t ≤ a
    · rw [decide_eq_false (by omega)]
      simp (disch := omega) only [m_X9_isTold, j_X9_isTold_23, rc_ok C.tag, hm, zb0, lm8, lm2, lm1, l0, l1, l2, l3, l4, l5, l6, l7, l8, l9, l10, l11, l12, l13, l14, l15, l16, l17, l18, l19, l20, l21, l22, l23, l24, l25, l27, l31, l32, l40, l46, l48, l50, l57, l59, l63, l86, l96, l97, l100, l110, l114, l122, l127, l200, l255, l300, l319, l320, l340, l441, l456, l580, l600, l800, l886, l1206, l1526, J_add, J_sub, J_mul, J_neg, J_lt, J_le, J_eq, jT, jF, iT, iF, eT, eF, aT, aF, ite_true, ite_false, ite_not, bs]
      rfl
    · rw [decide_eq_true (by omega)]
      simp (disch := omega) only [m_X9_isTold, j_X9_isTold_23, rc_ok C.tag, hm, zb1, lm8, lm2, lm1, l0, l1, l2, l3, l4, l5, l6, l7, l8, l9, l10, l11, l12, l13, l14, l15, l16, l17, l18, l19, l20, l21, l22, l23, l24, l25, l27, l31, l32, l40, l46, l48, l50, l57, l59, l63, l86, l96, l97, l100, l110, l114, l122, l127, l200, l255, l300, l319, l320, l340, l441, l456, l580, l600, l800, l886, l1206, l1526, J_add, J_sub, J_mul, J_neg, J_lt, J_le, J_eq, jT, jF, iT, iF, eT, eF, aT, aF, ite_true, ite_false, ite_not, bs]
      rfl
theorem CS.archiveAt (C : CS h s S) (W : SW S) {a : Int} (a0 : -2147483648 ≤ a) (a1 : a < 2147483648) : m_X9_archiveAt s (J a) h = some (if ndB S 0 a = true then s + 7 + 17 * a.toNat else 0) := by
  have it := C.isTold W (t := 0) (by omega) (by omega) a0 a1
  have n2 := W.2.2.1 0 (by omega) (by omega)
  by_cases c : ndB S 0 a = true
  · have q : 0 ≤ a ∧ a < sN S 0 := of_decide_eq_true c
    have al := alR_ok (h := h) (a := s + 4) (t := 24) (n := 2) (i := a) C.1.2.2.2.1.2.1 C.1.2.2.2.1.2.2 (by omega) q.1 (by omega)
    have hr : hR h (s + 4) a.toNat = s + 7 + 17 * a.toNat := (C.1.2.2.2.2.2.2 a.toNat (by omega)).1.1
    rw [hr] at al
    rw [if_pos c]
    rw [c] at it
    simp (disch := omega) only [m_X9_archiveAt, j_X9_archiveAt_19, rc_ok C.tag, it, C.r4, al, bI, bN, cond_true, lm8, lm2, lm1, l0, l1, l2, l3, l4, l5, l6, l7, l8, l9, l10, l11, l12, l13, l14, l15, l16, l17, l18, l19, l20, l21, l22, l23, l24, l25, l27, l31, l32, l40, l46, l48, l50, l57, l59, l63, l86, l96, l97, l100, l110, l114, l122, l127, l200, l255, l300, l319, l320, l340, l441, l456, l580, l600, l800, l886, l1206, l1526, J_add, J_sub, J_mul, J_neg, J_lt, J_le, J_eq, jT, jF, iT, iF, eT, eF, aT, aF, ite_true, ite_false, ite_not, bs]
  · have c' : ndB S 0 a = false := by simpa using c
    rw [if_neg c]
    rw [c'] at it
    simp (disch := omega) only [m_X9_archiveAt, j_X9_archiveAt_19, rc_ok C.tag, it, bI, bN, cond_false, lm8, lm2, lm1, l0, l1, l2, l3, l4, l5, l6, l7, l8, l9, l10, l11, l12, l13, l14, l15, l16, l17, l18, l19, l20, l21, l22, l23, l24, l25, l27, l31, l32, l40, l46, l48, l50, l57, l59, l63, l86, l96, l97, l100, l110, l114, l122, l127, l200, l255, l300, l319, l320, l340, l441, l456, l580, l600, l800, l886, l1206, l1526, J_add, J_sub, J_mul, J_neg, J_lt, J_le, J_eq, jT, jF, iT, iF, eT, eF, aT, aF, ite_true, ite_false, ite_not, bs]
theorem CS.questionsAt (C : CS h s S) (W : SW S) {a : Int} (a0 : -2147483648 ≤ a) (a1 : a < 2147483648) : m_X9_questionsAt s (J a) h = some (if ndB S 1 a = true then s + 17 + 17 * a.toNat else 0) := by
  have it := C.isTold W (t := 1) (by omega) (by omega) a0 a1
  have n2 := W.2.2.1 1 (by omega) (by omega)
  by_cases c : ndB S 1 a = true
  · have q : 0 ≤ a ∧ a < sN S 1 := of_decide_eq_true c
    have al := alR_ok (h := h) (a := s + 5) (t := 25) (n := 2) (i := a) C.1.2.2.2.2.1.2.1 C.1.2.2.2.2.1.2.2 (by omega) q.1 (by omega)
    have hr : hR h (s + 5) a.toNat = s + 17 + 17 * a.toNat := (C.1.2.2.2.2.2.2 a.toNat (by omega)).2.1.1
    rw [hr] at al
    rw [if_pos c]
    rw [c] at it
    simp (disch := omega) only [m_X9_questionsAt, j_X9_questionsAt_19, rc_ok C.tag, it, C.r5, al, bI, bN, cond_true, lm8, lm2, lm1, l0, l1, l2, l3, l4, l5, l6, l7, l8, l9, l10, l11, l12, l13, l14, l15, l16, l17, l18, l19, l20, l21, l22, l23, l24, l25, l27, l31, l32, l40, l46, l48, l50, l57, l59, l63, l86, l96, l97, l100, l110, l114, l122, l127, l200, l255, l300, l319, l320, l340, l441, l456, l580, l600, l800, l886, l1206, l1526, J_add, J_sub, J_mul, J_neg, J_lt, J_le, J_eq, jT, jF, iT, iF, eT, eF, aT, aF, ite_true, ite_false, ite_not, bs]
  · have c' : ndB S 1 a = false := by simpa using c
    rw [if_neg c]
    rw [c'] at it
    simp (disch := omega) only [m_X9_questionsAt, j_X9_questionsAt_19, rc_ok C.tag, it, bI, bN, cond_false, lm8, lm2, lm1, l0, l1, l2, l3, l4, l5, l6, l7, l8, l9, l10, l11, l12, l13, l14, l15, l16, l17, l18, l19, l20, l21, l22, l23, l24, l25, l27, l31, l32, l40, l46, l48, l50, l57, l59, l63, l86, l96, l97, l100, l110, l114, l122, l127, l200, l255, l300, l319, l320, l340, l441, l456, l580, l600, l800, l886, l1206, l1526, J_add, J_sub, J_mul, J_neg, J_lt, J_le, J_eq, jT, jF, iT, iF, eT, eF, aT, aF, ite_true, ite_false, ite_not, bs]
theorem CS.huntAt (C : CS h s S) (W : SW S) {a : Int} (a0 : -2147483648 ≤ a) (a1 : a < 2147483648) : m_X9_huntAt s (J a) h = some (if ndB S 2 a = true then s + 22 + 17 * a.toNat else 0) := by
  have it := C.isTold W (t := 2) (by omega) (by omega) a0 a1
  have n2 := W.2.2.1 2 (by omega) (by omega)
  by_cases c : ndB S 2 a = true
  · have q : 0 ≤ a ∧ a < sN S 2 := of_decide_eq_true c
    have al := alR_ok (h := h) (a := s + 6) (t := 26) (n := 2) (i := a) C.1.2.2.2.2.2.1.2.1 C.1.2.2.2.2.2.1.2.2 (by omega) q.1 (by omega)
    have hr : hR h (s + 6) a.toNat = s + 22 + 17 * a.toNat := (C.1.2.2.2.2.2.2 a.toNat (by omega)).2.2.1
    rw [hr] at al
    rw [if_pos c]
    rw [c] at it
    simp (disch := omega) only [m_X9_huntAt, j_X9_huntAt_19, rc_ok C.tag, it, C.r6, al, bI, bN, cond_true, lm8, lm2, lm1, l0, l1, l2, l3, l4, l5, l6, l7, l8, l9, l10, l11, l12, l13, l14, l15, l16, l17, l18, l19, l20, l21, l22, l23, l24, l25, l27, l31, l32, l40, l46, l48, l50, l57, l59, l63, l86, l96, l97, l100, l110, l114, l122, l127, l200, l255, l300, l319, l320, l340, l441, l456, l580, l600, l800, l886, l1206, l1526, J_add, J_sub, J_mul, J_neg, J_lt, J_le, J_eq, jT, jF, iT, iF, eT, eF, aT, aF, ite_true, ite_false, ite_not, bs]
  · have c' : ndB S 2 a = false := by simpa using c
    rw [if_neg c]
    rw [c'] at it
    simp (disch := omega) only [m_X9_huntAt, j_X9_huntAt_19, rc_ok C.tag, it, bI, bN, cond_false, lm8, lm2, lm1, l0, l1, l2, l3, l4, l5, l6, l7, l8, l9, l10, l11, l12, l13, l14, l15, l16, l17, l18, l19, l20, l21, l22, l23, l24, l25, l27, l31, l32, l40, l46, l48, l50, l57, l59, l63, l86, l96, l97, l100, l110, l114, l122, l127, l200, l255, l300, l319, l320, l340, l441, l456, l580, l600, l800, l886, l1206, l1526, J_add, J_sub, J_mul, J_neg, J_lt, J_le, J_eq, jT, jF, iT, iF, eT, eF, aT, aF, ite_true, ite_false, ite_not, bs]
theorem RS.is_ (C : RS h o 0 S) (W : SW S) {t a : Int} (t0 : 0 ≤ t) (t1 : t < 3) (a0 : -2147483648 ≤ a) (a1 : a < 2147483648) : m_X12_is o (J t) (J a) h = some (J (b01 (ndB S t a))) := by
  have T := C.1
  have n2 := W.2.2.1 t t0 t1
  have cm : alI h (o + 5) (J t) = some (J (sN S t)) := by
    have := C.2.2.2.2.2.1 t t0 t1
    rw [show 3 * (0 : Int) + t = t by omega] at this
    rw [alI_ok T.a5 t0 (by omega) (by omega), this]
  unfold ndB
  by_cases c : 0 ≤ a ∧ a < sN S t
  · rw [decide_eq_true c]
    have ei : m_X12_in (J a) (J 0) (J (sN S t - 1)) h = some (J 1) := X12_in_T (by omega) (by omega) (by omega)
    simp (disch := omega) only [m_X12_is, T.r5, cm, ei, zb1, lm8, lm2, lm1, l0, l1, l2, l3, l4, l5, l6, l7, l8, l9, l10, l11, l12, l13, l14, l15, l16, l17, l18, l19, l20, l21, l22, l23, l24, l25, l27, l31, l32, l40, l46, l48, l50, l57, l59, l63, l86, l96, l97, l100, l110, l114, l122, l127, l200, l255, l300, l319, l320, l340, l441, l456, l580, l600, l800, l886, l1206, l1526, J_add, J_sub, J_mul, J_neg, J_lt, J_le, J_eq, jT, jF, iT, iF, eT, eF, aT, aF, ite_true, ite_false, ite_not, bs]
    rfl
  · rw [decide_eq_false c]
    have ei : m_X12_in (J a) (J 0) (J (sN S t - 1)) h = some (J 0) := X12_in_F (by omega) (by omega) (by omega) (by omega)
    simp (disch := omega) only [m_X12_is, T.r5, cm, ei, zb0, lm8, lm2, lm1, l0, l1, l2, l3, l4, l5, l6, l7, l8, l9, l10, l11, l12, l13, l14, l15, l16, l17, l18, l19, l20, l21, l22, l23, l24, l25, l27, l31, l32, l40, l46, l48, l50, l57, l59, l63, l86, l96, l97, l100, l110, l114, l122, l127, l200, l255, l300, l319, l320, l340, l441, l456, l580, l600, l800, l886, l1206, l1526, J_add, J_sub, J_mul, J_neg, J_lt, J_le, J_eq, jT, jF, iT, iF, eT, eF, aT, aF, ite_true, ite_false, ite_not, bs]
    rfl
def AHd (o b k : Nat) : Prop := (b = o ∧ k = 24) ∨ b = o + 9
/-- an archive taken in hand -/
theorem RS.hand (C : RS h o 0 S) (W : SW S) {a : Int} (a0 : -2147483648 ≤ a) (a1 : a < 2147483648) : ∃ h', m_X12_hand o (J a) h = some (J (b01 (ndB S 0 a)), h') ∧ FR (AHd o) h h' ∧ (ndB S 0 a = true → RM h' o (sT S a)) := by
  have is_ := C.is_ W (t := 0) (by omega) (by omega) a0 a1
  have T := C.1
  have n2 := W.2.2.1 0 (by omega) (by omega)
  by_cases c : ndB S 0 a = true
  · have q : 0 ≤ a ∧ a < sN S 0 := of_decide_eq_true c
    have wf := (W.2.2.2 a q.1 (by omega)).1 q.2
    rw [c] at is_ ⊢
    obtain ⟨st, ⟨g, rfl, F, z⟩, el_⟩ := loop_ex (body := fun (k_ : Int32 × Hp → Option (Int32 × Hp)) (st : Int32 × Hp) => b_X12_hand_13 o (J a) (fun hz2 => j_X12_hand_44 o hz2) (fun v2q hq => k_ (v2q, hq)) st.1 st.2) (s := (J 0, h)) (fun i st => ∃ g, st = (J i, g) ∧ FR (fun b _ => b = o + 9) h g ∧ ∀ j, 0 ≤ j → j < i → hE g (o + 9) j = sT S a j) (fun st => j_X12_hand_44 o st.2) 1526 (by omega) (by omega) ⟨h, rfl, FR.refl _ _, fun j j0 j1 => by omega⟩ (by
      rintro k_ i st i0 i1 ⟨g, rfl, F, z⟩
      have tr : TR (top g) o := by rw [F.1]; exact T
      have cv : hE g (o + 6) (1526 * a + i) = sT S a i := by
        have := C.2.2.2.2.2.2.1 a q.1 (by omega) q.2 i i0 i1
        rw [show 3052 * (0 : Int) + (1526 * a + i) = 1526 * a + i by omega] at this
        rw [F.e (by omega), this]
      have rg := hE_rg g (o + 6) (1526 * a + i)
      rw [cv] at rg
      have a2 : alI g (o + 6) (J (1526 * a + i)) = some (J (sT S a i)) := by rw [alI_ok tr.a6 (by omega) (by omega) (by omega), cv]
      have s1 : asI g (o + 9) (J i) (J (sT S a i)) = some (wE g (o + 9) i (sT S a i)) := asI_ok tr.a18 i0 (by omega) (by omega)
      refine ⟨(J (i + 1), wE g (o + 9) i (sT S a i)), ⟨_, rfl, F.trans (FR.wE (A := fun b _ => b = o + 9) rfl), fun j j0 j1 => ?_⟩, ?_⟩
      · rw [hE_wE i0 j0 rg.1 rg.2]
        by_cases y : j = i
        · rw [if_pos ⟨rfl, y⟩, y]
        · rw [if_neg (fun x => y x.2), z j j0 (by omega)]
      · show b_X12_hand_13 o (J a) (fun hz2 => j_X12_hand_44 o hz2) (fun v2q hq => k_ (v2q, hq)) (J i) g = _
        simp (disch := omega) only [b_X12_hand_13, tr.r18, tr.r6, a2, s1, lm8, lm2, lm1, l0, l1, l2, l3, l4, l5, l6, l7, l8, l9, l10, l11, l12, l13, l14, l15, l16, l17, l18, l19, l20, l21, l22, l23, l24, l25, l27, l31, l32, l40, l46, l48, l50, l57, l59, l63, l86, l96, l97, l100, l110, l114, l122, l127, l200, l255, l300, l319, l320, l340, l441, l456, l580, l600, l800, l886, l1206, l1526, J_add, J_sub, J_mul, J_neg, J_lt, J_le, J_eq, jT, jF, iT, iF, eT, eF, aT, aF, ite_true, ite_false, ite_not, bs]) (by
      rintro k_ st ⟨g, rfl, -⟩
      show b_X12_hand_13 o (J a) (fun hz2 => j_X12_hand_44 o hz2) (fun v2q hq => k_ (v2q, hq)) (J 1526) g = _
      simp (disch := omega) only [b_X12_hand_13, lm8, lm2, lm1, l0, l1, l2, l3, l4, l5, l6, l7, l8, l9, l10, l11, l12, l13, l14, l15, l16, l17, l18, l19, l20, l21, l22, l23, l24, l25, l27, l31, l32, l40, l46, l48, l50, l57, l59, l63, l86, l96, l97, l100, l110, l114, l122, l127, l200, l255, l300, l319, l320, l340, l441, l456, l580, l600, l800, l886, l1206, l1526, J_add, J_sub, J_mul, J_neg, J_lt, J_le, J_eq, jT, jF, iT, iF, eT, eF, aT, aF, ite_true, ite_false, ite_not, bs])
    have el2 : l_X12_hand_13 o (J a) (fun hz2 => j_X12_hand_44 o hz2) (J 0) h = j_X12_hand_44 o g := el_
    have tr : TR (top g) o := by rw [F.1]; exact T
    have t5 : alI g (o + 9) (J 5) = some (J (sT S a 5)) := by rw [alI_ok tr.a18 (by omega) (by omega) (by omega), z 5 (by omega) (by omega)]
    have p24 : pfI g o 12 24 (J (sT S a 5)) = some (wE g o 24 (sT S a 5)) := pfI_ok tr.tag
    have n5 := wf.1.n5
    refine ⟨wE g o 24 (sT S a 5), ?_, (F.mono (fun b k q => Or.inr q)).trans (FR.wE (A := AHd o) (Or.inl ⟨rfl, rfl⟩)), fun _ => ⟨tr, wf.1, ?_, fun k k0 k1 => ?_⟩⟩
    · unfold m_X12_hand
      rw [rc_ok T.tag, show (0 : Int32) = J 0 from rfl, is_, bs, if_pos (show ¬ J (b01 true) = J 0 by decide), el2]
      unfold j_X12_hand_44
      rw [tr.r18, bs, show (5 : Int32) = J 5 from rfl, t5, bs, p24, bs]
      rfl
    · rw [hE_wE (by omega) (by omega) (by omega) (by omega), if_pos ⟨rfl, rfl⟩]
    · rw [hE_wE (by omega) k0 (by omega) (by omega), if_neg (by omega), z k k0 k1]
  · have c' : ndB S 0 a = false := by simpa using c
    rw [c'] at is_ ⊢
    refine ⟨h, ?_, FR.refl _ _, fun q => by cases q⟩
    unfold m_X12_hand
    rw [rc_ok T.tag, show (0 : Int32) = J 0 from rfl, is_, bs, if_neg (fun q => q rfl)]
    rfl
theorem RS.asking (C : RS h o 0 S) (W : SW S) {a : Int} (a0 : -2147483648 ≤ a) (a1 : a < 2147483648) : ∃ h', m_X12_hasAsking o (J a) h = some (J (b01 (ndB S 1 a)), h') ∧ FR (fun b k => b = o ∧ k = 28) h h' ∧ (ndB S 1 a = true → RQ h' o (sQ S a)) := by
  have T := C.1
  have n2 := W.2.2.1 1 (by omega) (by omega)
  have p1 : pfI h o 12 28 (J a) = some (wE h o 28 a) := pfI_ok T.tag
  have F : FR (fun b k => b = o ∧ k = 28) h (wE h o 28 a) := FR.wE (A := fun b k => b = o ∧ k = 28) ⟨rfl, rfl⟩
  have z : hE (wE h o 28 a) o 28 = a := by rw [hE_wE (by omega) (by omega) a0 a1, if_pos ⟨rfl, rfl⟩]
  generalize wE h o 28 a = g at *
  have Cg := C.frame F (fun b k b0 b1 => by omega)
  have is_ := Cg.is_ W (t := 1) (by omega) (by omega) a0 a1
  refine ⟨g, ?_, F, fun c => ?_⟩
  · unfold m_X12_hasAsking
    rw [p1, bs, rc_ok Cg.1.tag, show (1 : Int32) = J 1 from rfl, is_, bs]
    cases ndB S 1 a
    · show (zb (J 0)).bind _ = _
      rw [zb0, bs]
      rfl
    · show (zb (J 1)).bind _ = _
      rw [zb1, bs]
      rfl
  · have q : 0 ≤ a ∧ a < sN S 1 := of_decide_eq_true c
    refine ⟨Cg.1, (W.2.2.2 a q.1 (by omega)).2.1 q.2, a, q.1, by omega, z, fun i i0 i1 => ?_⟩
    have := Cg.2.2.2.2.2.2.2.1 a q.1 (by omega) q.2 i i0 i1
    rw [show 114 * (0 : Int) + (57 * a + i) = 57 * a + i by omega] at this
    exact this
theorem RS.hunt (C : RS h o 0 S) (W : SW S) {a : Int} (a0 : -2147483648 ≤ a) (a1 : a < 2147483648) : ∃ h', m_X12_hasHunt o (J a) h = some (J (b01 (ndB S 2 a)), h') ∧ FR (fun b k => b = o ∧ k = 30) h h' ∧ (ndB S 2 a = true → RU h' o (sU S a)) := by
  have T := C.1
  have n2 := W.2.2.1 2 (by omega) (by omega)
  have p1 : pfI h o 12 30 (J a) = some (wE h o 30 a) := pfI_ok T.tag
  have F : FR (fun b k => b = o ∧ k = 30) h (wE h o 30 a) := FR.wE (A := fun b k => b = o ∧ k = 30) ⟨rfl, rfl⟩
  have z : hE (wE h o 30 a) o 30 = a := by rw [hE_wE (by omega) (by omega) a0 a1, if_pos ⟨rfl, rfl⟩]
  generalize wE h o 30 a = g at *
  have Cg := C.frame F (fun b k b0 b1 => by omega)
  have is_ := Cg.is_ W (t := 2) (by omega) (by omega) a0 a1
  refine ⟨g, ?_, F, fun c => ?_⟩
  · unfold m_X12_hasHunt
    rw [p1, bs, rc_ok Cg.1.tag, show (2 : Int32) = J 2 from rfl, is_, bs]
    cases ndB S 2 a
    · show (zb (J 0)).bind _ = _
      rw [zb0, bs]
      rfl
    · show (zb (J 1)).bind _ = _
      rw [zb1, bs]
      rfl
  · have q : 0 ≤ a ∧ a < sN S 2 := of_decide_eq_true c
    refine ⟨Cg.1, (W.2.2.2 a q.1 (by omega)).2.2 q.2, a, q.1, by omega, z, fun i i0 i1 => ?_⟩
    have := Cg.2.2.2.2.2.2.2.2 a q.1 (by omega) q.2 i i0 i1
    rw [show 50 * (0 : Int) + (25 * a + i) = 25 * a + i by omega] at this
    exact this
end ST
