/-! PURE PART: an image copied, the reference, all rows -/
def AIm (o : Nat) (q : Int) (b k : Nat) : Prop := (b = o + 1 ∧ (600 * q).toNat ≤ k ∧ k < (600 * q + 600).toNat) ∨ (b = o + 2 ∧ (q).toNat ≤ k ∧ k < (q + 1).toNat) ∨ (b = o + 3 ∧ (q).toNat ≤ k ∧ k < (q + 1).toNat) ∨ (b = o + 4 ∧ (q).toNat ≤ k ∧ k < (q + 1).toNat) ∨ (b = o + 5 ∧ (3 * q).toNat ≤ k ∧ k < (3 * q + 3).toNat) ∨ (b = o + 6 ∧ (3052 * q).toNat ≤ k ∧ k < (3052 * q + 3052).toNat) ∨ (b = o + 7 ∧ (114 * q).toNat ≤ k ∧ k < (114 * q + 114).toNat) ∨ (b = o + 8 ∧ (50 * q).toNat ≤ k ∧ k < (50 * q + 50).toNat)
theorem RS.copyAll {h : Hp} {o : Nat} {S : Sx} {p q : Int} (R : RS h o p S) (W : BW (sB S) (sL S)) (p0 : 0 ≤ p) (p1 : p < 4) (q0 : 0 ≤ q) (q1 : q < 4) (pq : p ≠ q) (n2 : ∀ k, 0 ≤ k → k < 3 → sN S k ≤ 2) : ∃ g, m_X12_copyAll o (J p) (J q) h = some g ∧ FR (AIm o q) h g ∧ RS g o q S := by
  obtain ⟨r1, r2, r3, r4, r5, r6, r7, r8, r9⟩ := R
  obtain ⟨g1, e1, F1, z1⟩ := X12_copyBytes r1 p0 p1 q0 q1 pq (fun k k0 k1 => by rw [r2 k k0 k1]; exact W.2.2 k k0 k1) (fun hz1 => j_X12_copyAll_39 o (J p) (J q) hz1)
  have P1 : FR (fun b _ => b < o + 2) h g1 := F1.mono (fun b k u => by omega)
  have T1 : TR (top g1) o := by rw [F1.1]; exact r1
  obtain ⟨g2, e2, F2, z2⟩ := X12_copyRow_ok (h := g1) (a := o + 2) (N := 4) (w := 1) (p := p) (q := q) (m1 := p) (m2 := q) T1.a2 (by omega) (by omega) (by omega) (by omega) (by omega) (by omega) (by omega) (by omega) (by omega)
  have T2 : TR (top g2) o := by rw [F2.1]; exact T1
  have P2 : FR (fun b _ => b < o + 3) h g2 := (P1.mono (fun b k u => by omega)).trans (F2.mono (fun b k u => by omega))
  obtain ⟨g3, e3, F3, z3⟩ := X12_copyRow_ok (h := g2) (a := o + 3) (N := 4) (w := 1) (p := p) (q := q) (m1 := p) (m2 := q) T2.a3 (by omega) (by omega) (by omega) (by omega) (by omega) (by omega) (by omega) (by omega) (by omega)
  have T3 : TR (top g3) o := by rw [F3.1]; exact T2
  have P3 : FR (fun b _ => b < o + 4) h g3 := (P2.mono (fun b k u => by omega)).trans (F3.mono (fun b k u => by omega))
  obtain ⟨g4, e4, F4, z4⟩ := X12_copyRow_ok (h := g3) (a := o + 4) (N := 4) (w := 1) (p := p) (q := q) (m1 := p) (m2 := q) T3.a4 (by omega) (by omega) (by omega) (by omega) (by omega) (by omega) (by omega) (by omega) (by omega)
  have T4 : TR (top g4) o := by rw [F4.1]; exact T3
  have P4 : FR (fun b _ => b < o + 5) h g4 := (P3.mono (fun b k u => by omega)).trans (F4.mono (fun b k u => by omega))
  obtain ⟨g5, e5, F5, z5⟩ := X12_copyRow_ok (h := g4) (a := o + 5) (N := 12) (w := 3) (p := p) (q := q) (m1 := 3 * p) (m2 := 3 * q) T4.a5 (by omega) (by omega) (by omega) (by omega) (by omega) (by omega) (by omega) (by omega) (by omega)
  have T5 : TR (top g5) o := by rw [F5.1]; exact T4
  have P5 : FR (fun b _ => b < o + 6) h g5 := (P4.mono (fun b k u => by omega)).trans (F5.mono (fun b k u => by omega))
  obtain ⟨g6, e6, F6, z6⟩ := X12_copyRow_ok (h := g5) (a := o + 6) (N := 12208) (w := 3052) (p := p) (q := q) (m1 := 3052 * p) (m2 := 3052 * q) T5.a6 (by omega) (by omega) (by omega) (by omega) (by omega) (by omega) (by omega) (by omega) (by omega)
  have T6 : TR (top g6) o := by rw [F6.1]; exact T5
  have P6 : FR (fun b _ => b < o + 7) h g6 := (P5.mono (fun b k u => by omega)).trans (F6.mono (fun b k u => by omega))
  obtain ⟨g7, e7, F7, z7⟩ := X12_copyRow_ok (h := g6) (a := o + 7) (N := 456) (w := 114) (p := p) (q := q) (m1 := 114 * p) (m2 := 114 * q) T6.a7 (by omega) (by omega) (by omega) (by omega) (by omega) (by omega) (by omega) (by omega) (by omega)
  have T7 : TR (top g7) o := by rw [F7.1]; exact T6
  have P7 : FR (fun b _ => b < o + 8) h g7 := (P6.mono (fun b k u => by omega)).trans (F7.mono (fun b k u => by omega))
  obtain ⟨g8, e8, F8, z8⟩ := X12_copyRow_ok (h := g7) (a := o + 8) (N := 200) (w := 50) (p := p) (q := q) (m1 := 50 * p) (m2 := 50 * q) T7.a8 (by omega) (by omega) (by omega) (by omega) (by omega) (by omega) (by omega) (by omega) (by omega)
  have T8 : TR (top g8) o := by rw [F8.1]; exact T7
  have P8 : FR (fun b _ => b < o + 9) h g8 := (P7.mono (fun b k u => by omega)).trans (F8.mono (fun b k u => by omega))
  have Q7 : FR (fun b _ => o + 7 < b) g7 g8 := F8.mono (fun b k u => by omega)
  have Q6 : FR (fun b _ => o + 6 < b) g6 g8 := (F7.mono (fun b k u => by omega)).trans (Q7.mono (fun b k u => by omega))
  have Q5 : FR (fun b _ => o + 5 < b) g5 g8 := (F6.mono (fun b k u => by omega)).trans (Q6.mono (fun b k u => by omega))
  have Q4 : FR (fun b _ => o + 4 < b) g4 g8 := (F5.mono (fun b k u => by omega)).trans (Q5.mono (fun b k u => by omega))
  have Q3 : FR (fun b _ => o + 3 < b) g3 g8 := (F4.mono (fun b k u => by omega)).trans (Q4.mono (fun b k u => by omega))
  have Q2 : FR (fun b _ => o + 2 < b) g2 g8 := (F3.mono (fun b k u => by omega)).trans (Q3.mono (fun b k u => by omega))
  have Q1 : FR (fun b _ => o + 1 < b) g1 g8 := (F2.mono (fun b k u => by omega)).trans (Q2.mono (fun b k u => by omega))
  have FF : FR (AIm o q) h g8 := (((((((F1.mono (fun b k u => by unfold AIm; omega)).trans (F2.mono (fun b k u => by unfold AIm; omega))).trans (F3.mono (fun b k u => by unfold AIm; omega))).trans (F4.mono (fun b k u => by unfold AIm; omega))).trans (F5.mono (fun b k u => by unfold AIm; omega))).trans (F6.mono (fun b k u => by unfold AIm; omega))).trans (F7.mono (fun b k u => by unfold AIm; omega))).trans (F8.mono (fun b k u => by unfold AIm; omega))
  refine ⟨g8, ?_, FF, T8, fun k k0 k1 => ?_, ?_, ?_, ?_, fun k k0 k1 => ?_, fun i i0 i1 u c d0 d1 => ?_, fun i i0 i1 u c d0 d1 => ?_, fun i i0 i1 u c d0 d1 => ?_⟩
  · unfold m_X12_copyAll
    rw [show (0 : Int32) = J 0 from rfl, e1]
    simp (disch := omega) only [j_X12_copyAll_39, T1.r2, e2, T2.r3, e3, T3.r4, e4, T4.r5, e5, T5.r6, e6, T6.r7, e7, T7.r8, e8, show (3052 : Int32) = J 3052 from rfl, show (114 : Int32) = J 114 from rfl, show (50 : Int32) = J 50 from rfl, lm8, lm2, lm1, l0, l1, l2, l3, l4, l5, l6, l7, l8, l9, l10, l11, l12, l13, l14, l15, l16, l17, l18, l19, l20, l21, l22, l23, l24, l25, l27, l31, l32, l40, l46, l48, l50, l57, l59, l63, l86, l96, l97, l100, l110, l114, l122, l127, l200, l255, l300, l319, l320, l340, l441, l456, l580, l600, l800, l886, l1206, l1526, J_add, J_sub, J_mul, J_neg, J_lt, J_le, J_eq, jT, jF, iT, iF, eT, eF, aT, aF, ite_true, ite_false, ite_not, bs]
  · rw [Q1.e (by omega), z1 k k0 k1, r2 k k0 k1]
  · have := z2 0 (by omega) (by omega)
    rw [Int.add_zero, Int.add_zero] at this
    rw [Q2.e (by omega), this, P1.e (by omega), r3]
  · have := z3 0 (by omega) (by omega)
    rw [Int.add_zero, Int.add_zero] at this
    rw [Q3.e (by omega), this, P2.e (by omega), r4]
  · have := z4 0 (by omega) (by omega)
    rw [Int.add_zero, Int.add_zero] at this
    rw [Q4.e (by omega), this, P3.e (by omega), r5]
  · rw [Q5.e (by omega), z5 k k0 (by omega), P4.e (by omega), r6 k k0 k1]
  · rw [Q6.e (by omega), z6 _ (by omega) (by omega), P5.e (by omega), r7 i i0 i1 u c d0 d1]
  · rw [Q7.e (by omega), z7 _ (by omega) (by omega), P6.e (by omega), r8 i i0 i1 u c d0 d1]
  · rw [z8 _ (by omega) (by omega), P7.e (by omega), r9 i i0 i1 u c d0 d1]
