/-! PURE PART: feed, end, fault, count, both sides -/
def byT (v : Int32) (s : Int) : Int := ((ishrF v (J s)).toInt8.toInt32).toInt
theorem by_c (v : Int32) (s : Int) : (Int32.toInt8 (ishrF v (J s))).toInt32 = J (byT v s) := (J_inv _).symm
theorem by_rg (v : Int32) (s : Int) : -128 ≤ byT v s ∧ byT v s ≤ 127 := by
  unfold byT
  rw [Int8.toInt_toInt32]
  have h1 := Int8.le_toInt (ishrF v (J s)).toInt8
  have h2 := Int8.toInt_lt (ishrF v (J s)).toInt8
  omega
theorem by_u (v : Int32) {i : Int} (i0 : 0 ≤ i) (i1 : i < 4) : (Int32.toInt8 (iushrF v (J (24 - 8 * i)))).toInt32 = J (byT v (24 - 8 * i)) := by
  rw [← by_c]
  congr 1
  apply Int8.toBitVec_inj.mp
  obtain rfl | rfl | rfl | rfl : i = 0 ∨ i = 1 ∨ i = 2 ∨ i = 3 := by omega
  · unfold iushrF ishrF
    rw [Int32.toBitVec_toInt8, Int32.toBitVec_toInt8]
    rw [BitVec.signExtend_eq_setWidth_of_le _ (by decide), BitVec.signExtend_eq_setWidth_of_le _ (by decide)]
    show (v.toBitVec >>> (24 : Nat)).setWidth 8 = (v.toBitVec.sshiftRight 24).setWidth 8
    ext j hj
    have q : 24 + j < 32 := by omega
    have q2 : ¬ 32 ≤ j := by omega
    rw [BitVec.getElem_setWidth, BitVec.getElem_setWidth, BitVec.getLsbD_ushiftRight, BitVec.getLsbD_sshiftRight, decide_eq_false q2, if_pos q]
    rfl
  · unfold iushrF ishrF
    rw [Int32.toBitVec_toInt8, Int32.toBitVec_toInt8]
    rw [BitVec.signExtend_eq_setWidth_of_le _ (by decide), BitVec.signExtend_eq_setWidth_of_le _ (by decide)]
    show (v.toBitVec >>> (16 : Nat)).setWidth 8 = (v.toBitVec.sshiftRight 16).setWidth 8
    ext j hj
    have q : 16 + j < 32 := by omega
    have q2 : ¬ 32 ≤ j := by omega
    rw [BitVec.getElem_setWidth, BitVec.getElem_setWidth, BitVec.getLsbD_ushiftRight, BitVec.getLsbD_sshiftRight, decide_eq_false q2, if_pos q]
    rfl
  · unfold iushrF ishrF
    rw [Int32.toBitVec_toInt8, Int32.toBitVec_toInt8]
    rw [BitVec.signExtend_eq_setWidth_of_le _ (by decide), BitVec.signExtend_eq_setWidth_of_le _ (by decide)]
    show (v.toBitVec >>> (8 : Nat)).setWidth 8 = (v.toBitVec.sshiftRight 8).setWidth 8
    ext j hj
    have q : 8 + j < 32 := by omega
    have q2 : ¬ 32 ≤ j := by omega
    rw [BitVec.getElem_setWidth, BitVec.getElem_setWidth, BitVec.getLsbD_ushiftRight, BitVec.getLsbD_sshiftRight, decide_eq_false q2, if_pos q]
    rfl
  · unfold iushrF ishrF
    rw [Int32.toBitVec_toInt8, Int32.toBitVec_toInt8]
    rw [BitVec.signExtend_eq_setWidth_of_le _ (by decide), BitVec.signExtend_eq_setWidth_of_le _ (by decide)]
    show (v.toBitVec >>> (0 : Nat)).setWidth 8 = (v.toBitVec.sshiftRight 0).setWidth 8
    ext j hj
    simp
theorem asB_ok {h : Hp} {a n : Nat} {i z : Int} (hT : TB (top h) a n) (h0 : 0 ≤ i) (h1 : i < n) (hn : n < 100000) (z0 : -128 ≤ z) (z1 : z ≤ 127) : asB h a (J i) (J z) = some (wE h a i z) := by
  have e : vp_nar .byte (J z) = J z := by
    show (J z).toInt8.toInt32 = J z
    rw [← J_inv ((J z).toInt8.toInt32), Int8.toInt_toInt32, Int32.toInt_toInt8, J_toInt (by omega) (by omega), Int.bmod_eq_of_le (by omega) (by omega)]
  unfold asB
  rw [if_pos ⟨hT.1, by rw [show hLen h a = n from hT.2]; exact inB_ok h0 h1 hn⟩, J_nat (by omega) (by omega), e]
/-- a word's bytes laid behind L bytes, m of them -/
def adB (B : Int → Int) (L : Int) (v : Int32) (m k : Int) : Int := if L ≤ k ∧ k < L + m then byT v (24 - 8 * (k - L)) else B k
def AAd (a b k : Nat) : Prop := (b = a ∧ k = 1) ∨ b = a + 1
section FD
variable {h : Hp} {a o : Nat} {B : Int → Int} {L : Int} {v : Int32}
theorem adB_W (H : BW B L) (hl : L + 4 ≤ 600) : BW (adB B L v 4) (L + 4) := by
  obtain ⟨h0, h1, h2⟩ := H
  refine ⟨by omega, hl, fun k k0 k1 => ?_⟩
  have r := by_rg v (24 - 8 * (k - L))
  have := h2 k k0 k1
  unfold adB
  split <;> omega
theorem adB_0 : adB B L v 0 = B := by
  funext k
  unfold adB
  rw [if_neg (by omega)]
theorem CT.add (H : CT h a B L) (hl : L + 4 ≤ 600) : ∃ h', m_X10_add a v h = some h' ∧ FR (AAd a) h h' ∧ CT h' a (adB B L v 4) (L + 4) := by
  have W4 := adB_W (v := v) H.2.1 hl
  obtain ⟨h0, h1, h2⟩ := H.2.1
  obtain ⟨st, ⟨g, rfl, F, z, zb⟩, el⟩ := loop_ex (body := fun (k : Int32 × Hp → Option Hp) (s : Int32 × Hp) => b_X10_add_3 a v (fun v2q hq => k (v2q, hq)) s.1 s.2) (s := (J 24, h)) (fun i st => ∃ g, st = (J (24 - 8 * i), g) ∧ FR (AAd a) h g ∧ hE g a 1 = L + i ∧ ∀ k, 0 ≤ k → k < 600 → hE g (a + 1) k = adB B L v i k) (fun st => some st.2) 4 (by omega) (by omega) ⟨h, rfl, FR.refl _ _, by rw [H.2.2.1, Int.add_zero], fun k k0 k1 => by rw [adB_0, H.2.2.2 k k0 k1]⟩ (by
    rintro k i st i0 i1 ⟨g, rfl, F, z, zb⟩
    have tt : TT (top g) a := by rw [F.1]; exact H.1
    have tg : hTag g a = 10 := tt.1
    have r0 : gfR g a 10 0 = some (a + 1) := gfR_ok tt.1 tt.2.1
    have f1 : gfI g a 10 1 = some (J (L + i)) := by rw [gfI_ok tt.1]; exact congrArg (fun z => some (J z)) z
    have e2 : alen g (a + 1) 21 = some (J 600) := blen_ok (n := 600) tt.2.2 (by decide)
    have rg := by_rg v (24 - 8 * i)
    have s1 : asB g (a + 1) (J (L + i)) (J (byT v (24 - 8 * i))) = some (wE g (a + 1) (L + i) (byT v (24 - 8 * i))) := asB_ok tt.2.2 (by omega) (by omega) (by omega) rg.1 rg.2
    have bu := by_u v i0 i1
    have z2 : ∀ k, 0 ≤ k → k < 600 → hE (wE g (a + 1) (L + i) (byT v (24 - 8 * i))) (a + 1) k = adB B L v (i + 1) k := fun k k0 k1 => by
      rw [hE_wE (by omega) k0 (by omega) (by omega), zb k k0 k1]
      unfold adB
      by_cases y : k = L + i
      · rw [if_pos ⟨rfl, y⟩, if_pos (by omega), y, show L + i - L = i by omega]
      · rw [if_neg (fun q => y q.2)]
        by_cases y2 : L ≤ k ∧ k < L + i
        · rw [if_pos y2, if_pos (by omega)]
        · rw [if_neg y2, if_neg (by omega)]
    have F2 : FR (AAd a) g (wE g (a + 1) (L + i) (byT v (24 - 8 * i))) := FR.wE (A := AAd a) (Or.inr rfl)
    have z3 : hE (wE g (a + 1) (L + i) (byT v (24 - 8 * i))) a 1 = L + i := by rw [hE_wE_ne (by omega), z]
    generalize hg : wE g (a + 1) (L + i) (byT v (24 - 8 * i)) = g2 at *
    have t2 : TT (top g2) a := by rw [F2.1]; exact tt
    have f2 : gfI g2 a 10 1 = some (J (L + i)) := by rw [gfI_ok t2.1]; exact congrArg (fun z => some (J z)) z3
    have p2 : pfI g2 a 10 1 (J (L + i + 1)) = some (wE g2 a 1 (L + i + 1)) := pfI_ok t2.1
    refine ⟨(J (24 - 8 * (i + 1)), wE g2 a 1 (L + i + 1)), ⟨_, rfl, (F.trans F2).trans (FR.wE (A := AAd a) (Or.inl ⟨rfl, rfl⟩)), ?_, fun k k0 k1 => ?_⟩, ?_⟩
    · rw [hE_wE (by omega) (by omega) (by omega) (by omega), if_pos ⟨rfl, rfl⟩]
      omega
    · rw [hE_wE_ne (by omega), z2 k k0 k1]
    · show b_X10_add_3 a v (fun v2q hq => k (v2q, hq)) (J (24 - 8 * i)) g = _
      unfold b_X10_add_3
      rw [bu]
      have e9 : 24 - 8 * i + -8 = 24 - 8 * (i + 1) := by omega
      simp (disch := omega) only [j_X10_add_49, lm8, r0, f1, e2, s1, f2, p2, e9, lm8, lm2, lm1, l0, l1, l2, l3, l4, l5, l6, l7, l8, l9, l10, l11, l12, l13, l14, l15, l16, l17, l18, l19, l20, l21, l22, l23, l24, l25, l27, l31, l32, l40, l46, l48, l50, l57, l59, l63, l86, l96, l97, l100, l110, l114, l122, l127, l200, l255, l300, l319, l320, l340, l441, l456, l580, l600, l800, l886, l1206, l1526, J_add, J_sub, J_mul, J_neg, J_lt, J_le, J_eq, jT, jF, iT, iF, eT, eF, aT, aF, ite_true, ite_false, ite_not, bs]) (by
    rintro k st ⟨g, rfl, -⟩
    show b_X10_add_3 a v (fun v2q hq => k (v2q, hq)) (J (24 - 8 * 4)) g = _
    simp (disch := omega) only [b_X10_add_3, show (24 : Int) - 8 * 4 = -8 from rfl, lm8, lm2, lm1, l0, l1, l2, l3, l4, l5, l6, l7, l8, l9, l10, l11, l12, l13, l14, l15, l16, l17, l18, l19, l20, l21, l22, l23, l24, l25, l27, l31, l32, l40, l46, l48, l50, l57, l59, l63, l86, l96, l97, l100, l110, l114, l122, l127, l200, l255, l300, l319, l320, l340, l441, l456, l580, l600, l800, l886, l1206, l1526, J_add, J_sub, J_mul, J_neg, J_lt, J_le, J_eq, jT, jF, iT, iF, eT, eF, aT, aF, ite_true, ite_false, ite_not, bs])
  exact ⟨g, el, F, by rw [F.1]; exact H.1, W4, z, zb⟩
/-- the reference's tape, image 0 -/
def RBf (h : Hp) (o : Nat) (B : Int → Int) (L : Int) : Prop := TR (top h) o ∧ hE h (o + 2) 0 = L ∧ ∀ k, 0 ≤ k → k < 600 → hE h (o + 1) k = B k
def AFo (o b k : Nat) : Prop := (b = o + 2 ∧ k = 0) ∨ (b = o + 1 ∧ k < 600)
theorem RBf.four (H : RBf h o B L) (l0_ : 0 ≤ L) (hl : L + 4 ≤ 600) : ∃ h', m_X12_four o v h = some h' ∧ FR (AFo o) h h' ∧ RBf h' o (adB B L v 4) (L + 4) := by
  obtain ⟨st, ⟨g, rfl, F, z, zb⟩, el⟩ := loop_ex (body := fun (k : Int32 × Hp → Option Hp) (s : Int32 × Hp) => b_X12_four_3 o v (fun v2q hq => k (v2q, hq)) s.1 s.2) (s := (J 24, h)) (fun i st => ∃ g, st = (J (24 - 8 * i), g) ∧ FR (AFo o) h g ∧ hE g (o + 2) 0 = L + i ∧ ∀ k, 0 ≤ k → k < 600 → hE g (o + 1) k = adB B L v i k) (fun st => some st.2) 4 (by omega) (by omega) ⟨h, rfl, FR.refl _ _, by rw [H.2.1, Int.add_zero], fun k k0 k1 => by rw [adB_0, H.2.2 k k0 k1]⟩ (by
    rintro k i st i0 i1 ⟨g, rfl, F, z, zb⟩
    have tt : TR (top g) o := by rw [F.1]; exact H.1
    have f1 : alI g (o + 2) (J 0) = some (J (L + i)) := by rw [alI_ok tt.a2 (by omega) (by omega) (by omega), z]
    have rg := by_rg v (24 - 8 * i)
    have s1 : asB g (o + 1) (J (L + i)) (J (byT v (24 - 8 * i))) = some (wE g (o + 1) (L + i) (byT v (24 - 8 * i))) := asB_ok tt.a1 (by omega) (by omega) (by omega) rg.1 rg.2
    have bc := by_c v (24 - 8 * i)
    have z2 : ∀ k, 0 ≤ k → k < 600 → hE (wE g (o + 1) (L + i) (byT v (24 - 8 * i))) (o + 1) k = adB B L v (i + 1) k := fun k k0 k1 => by
      rw [hE_wE (by omega) k0 (by omega) (by omega), zb k k0 k1]
      unfold adB
      by_cases y : k = L + i
      · rw [if_pos ⟨rfl, y⟩, if_pos (by omega), y, show L + i - L = i by omega]
      · rw [if_neg (fun q => y q.2)]
        by_cases y2 : L ≤ k ∧ k < L + i
        · rw [if_pos y2, if_pos (by omega)]
        · rw [if_neg y2, if_neg (by omega)]
    have F2 : FR (AFo o) g (wE g (o + 1) (L + i) (byT v (24 - 8 * i))) := FR.wE (A := AFo o) (Or.inr ⟨rfl, by omega⟩)
    have z3 : hE (wE g (o + 1) (L + i) (byT v (24 - 8 * i))) (o + 2) 0 = L + i := by rw [hE_wE_ne (by omega), z]
    generalize hg : wE g (o + 1) (L + i) (byT v (24 - 8 * i)) = g2 at *
    have t2 : TR (top g2) o := by rw [F2.1]; exact tt
    have f2 : alI g2 (o + 2) (J 0) = some (J (L + i)) := by rw [alI_ok t2.a2 (by omega) (by omega) (by omega), z3]
    have p2 : asI g2 (o + 2) (J 0) (J (L + i + 1)) = some (wE g2 (o + 2) 0 (L + i + 1)) := asI_ok t2.a2 (by omega) (by omega) (by omega)
    refine ⟨(J (24 - 8 * (i + 1)), wE g2 (o + 2) 0 (L + i + 1)), ⟨_, rfl, (F.trans F2).trans (FR.wE (A := AFo o) (Or.inl ⟨rfl, rfl⟩)), ?_, fun k k0 k1 => ?_⟩, ?_⟩
    · rw [hE_wE (by omega) (by omega) (by omega) (by omega), if_pos ⟨rfl, rfl⟩]
      omega
    · rw [hE_wE_ne (by omega), z2 k k0 k1]
    · show b_X12_four_3 o v (fun v2q hq => k (v2q, hq)) (J (24 - 8 * i)) g = _
      unfold b_X12_four_3
      rw [bc]
      have e9 : 24 - 8 * i + -8 = 24 - 8 * (i + 1) := by omega
      simp (disch := omega) only [lm8, tt.r1, tt.r2, f1, s1, t2.r2, f2, p2, e9, lm8, lm2, lm1, l0, l1, l2, l3, l4, l5, l6, l7, l8, l9, l10, l11, l12, l13, l14, l15, l16, l17, l18, l19, l20, l21, l22, l23, l24, l25, l27, l31, l32, l40, l46, l48, l50, l57, l59, l63, l86, l96, l97, l100, l110, l114, l122, l127, l200, l255, l300, l319, l320, l340, l441, l456, l580, l600, l800, l886, l1206, l1526, J_add, J_sub, J_mul, J_neg, J_lt, J_le, J_eq, jT, jF, iT, iF, eT, eF, aT, aF, ite_true, ite_false, ite_not, bs]) (by
    rintro k st ⟨g, rfl, -⟩
    show b_X12_four_3 o v (fun v2q hq => k (v2q, hq)) (J (24 - 8 * 4)) g = _
    simp (disch := omega) only [b_X12_four_3, show (24 : Int) - 8 * 4 = -8 from rfl, lm8, lm2, lm1, l0, l1, l2, l3, l4, l5, l6, l7, l8, l9, l10, l11, l12, l13, l14, l15, l16, l17, l18, l19, l20, l21, l22, l23, l24, l25, l27, l31, l32, l40, l46, l48, l50, l57, l59, l63, l86, l96, l97, l100, l110, l114, l122, l127, l200, l255, l300, l319, l320, l340, l441, l456, l580, l600, l800, l886, l1206, l1526, J_add, J_sub, J_mul, J_neg, J_lt, J_le, J_eq, jT, jF, iT, iF, eT, eF, aT, aF, ite_true, ite_false, ite_not, bs])
  exact ⟨g, el, F, by rw [F.1]; exact H.1, z, zb⟩
theorem RBf.frame {A : Nat → Nat → Prop} {h' : Hp} (H : RBf h o B L) (F : FR A h h') (n2 : ¬ A (o + 2) 0) (n1 : ∀ k, ¬ A (o + 1) k) : RBf h' o B L := by
  obtain ⟨c1, c2, c3⟩ := H
  exact ⟨by rw [F.1]; exact c1, by rw [F.e n2, c2], fun k k0 k1 => by rw [F.e (n1 _), c3 k k0 k1]⟩
/-- the reference's first image, and what it works with -/
def A0 (o b k : Nat) : Prop := b = o ∨ (b = o + 1 ∧ k < 600) ∨ (b = o + 2 ∧ k = 0) ∨ (b = o + 3 ∧ k = 0) ∨ (b = o + 4 ∧ k = 0) ∨ (b = o + 5 ∧ k < 3) ∨ (b = o + 6 ∧ k < 3052) ∨ (b = o + 7 ∧ k < 114) ∨ (b = o + 8 ∧ k < 50) ∨ (o + 9 ≤ b ∧ b ≤ o + 15)
/-- what a step may change -/
def St (x o b k : Nat) : Prop := (x + 1 ≤ b ∧ b ≤ x + 41) ∨ (x + 43 ≤ b ∧ b ≤ x + 81) ∨ A0 o b k
/-- a step: both sides give the same, and show the same again -/
def Sp (h : Hp) (x o : Nat) (c : Option (Int32 × Hp)) (r : Hp → Option (Int32 × Hp)) : Prop := ∃ v h1 h2 S', c = some (J v, h1) ∧ r h1 = some (J v, h2) ∧ FR (St x o) h h2 ∧ SBo h2 x o S' ∧ FR (St x o) h h1
variable {x : Nat} {S : Sx}
theorem Asc_St {b k : Nat} (q : Asc x o b k) : St x o b k := by
  unfold Asc at q
  unfold St A0
  omega
theorem Qy.sp {c : Option Int32} {r : Hp → Option (Int32 × Hp)} (M : SBo h x o S) (q : Qy h x o c r) : Sp h x o (c.bind fun v => some (v, h)) r := by
  obtain ⟨v, h2, e1, e2, F⟩ := q
  exact ⟨v, h, h2, S, by rw [e1]; rfl, e2, F.mono (fun b k => Asc_St), M.frame F, FR.refl _ _⟩
theorem Qh.sp {c : Option (Int32 × Hp)} {r : Hp → Option (Int32 × Hp)} (M : SBo h x o S) (q : Qh h x o c r) : Sp h x o c r := by
  obtain ⟨v, h1, h2, e1, e2, F, F1⟩ := q
  exact ⟨v, h1, h2, S, e1, e2, F.mono (fun b k => Asc_St), M.frame F, F1.mono (fun b k => Asc_St)⟩
def AFd (x o b k : Nat) : Prop := (b = x + 2 ∧ k = 1) ∨ b = x + 3 ∨ AFo o b k ∨ b = o
theorem AFd_St {b k : Nat} (q : AFd x o b k) : St x o b k := by
  unfold AFd AFo at q
  unfold St A0
  omega
/-- the same state, but for its text -/
theorem SBo.tape {h' : Hp} (M : SBo h x o S) (F : FR (AFd x o) h h') (C : CT h' (x + 2) B L) (R : RBf h' o B L) : SBo h' x o (B, L, S.2.2) := by
  obtain ⟨m1, ⟨c1, c2, c3, c4, c5, c6⟩, ⟨r1, r2, r3, r4, r5, r6, r7, r8, r9⟩, ⟨w1, w2⟩, m5, m6⟩ := M
  have nn : ∀ b k, x + 1 ≤ b → b ≤ x + 41 → b ≠ x + 3 → (b ≠ x + 2 ∨ k = 2 ∨ k = 0) → ¬ AFd x o b k := fun b k b0 b1 b2 b3 q => by
    unfold AFd AFo at q
    omega
  have no : ∀ b k, o + 3 ≤ b → ¬ AFd x o b k := fun b k b0 q => by
    unfold AFd AFo at q
    omega
  refine ⟨by rw [F.1]; exact m1, ⟨by rw [F.1]; exact c1, C, ?_, ?_, fun k k0 k1 => ?_, fun i hi => ⟨fun q => ?_, fun q => ?_, fun q => ?_⟩⟩, ⟨by rw [F.1]; exact r1, fun k k0 k1 => ?_, ?_, ?_, ?_, fun k k0 k1 => ?_, fun i i0 i1 q c d0 d1 => ?_, fun i i0 i1 q c d0 d1 => ?_, fun i i0 i1 q c d0 d1 => ?_⟩, ⟨C.2.1, w2⟩, m5, m6⟩
  · rw [F.e (nn _ _ (by omega) (by omega) (by omega) (by omega)), c3]
    rfl
  · rw [F.e (nn _ _ (by omega) (by omega) (by omega) (by omega)), c4]
    rfl
  · rw [F.e (nn _ _ (by omega) (by omega) (by omega) (by omega)), c5 k k0 k1]
    rfl
  · obtain ⟨a1, a2, a3⟩ := (c6 i hi).1 q
    refine ⟨?_, ⟨a2.1, fun d v hv => by rw [F.e (nn _ _ (by omega) (by omega) (by omega) (by omega)), a2.2 d v hv]; rfl⟩, ?_⟩
    · refine a1.frame F ?_ ?_ (fun k => ?_) (fun k => ?_) (fun k => ?_) (fun k => ?_) (fun k => ?_) (fun k => ?_) <;> exact nn _ _ (by omega) (by omega) (by omega) (by omega)
    · refine a3.frame F ?_ (fun k => ?_) (fun k => ?_) <;> exact nn _ _ (by omega) (by omega) (by omega) (by omega)
  · refine ((c6 i hi).2.1 q).frame F ?_ (fun k => ?_) (fun k => ?_) (fun k => ?_) (fun k => ?_) <;> exact nn _ _ (by omega) (by omega) (by omega) (by omega)
  · refine ((c6 i hi).2.2 q).frame F ?_ (fun k => ?_) <;> exact nn _ _ (by omega) (by omega) (by omega) (by omega)
  · rw [show 600 * (0 : Int) + k = k by omega, R.2.2 k k0 k1]
    rfl
  · exact R.2.1
  · rw [F.e (no _ _ (by omega)), r4]
    rfl
  · rw [F.e (no _ _ (by omega)), r5]
    rfl
  · rw [F.e (no _ _ (by omega)), r6 k k0 k1]
    rfl
  · rw [F.e (no _ _ (by omega)), r7 i i0 i1 q c d0 d1]
    rfl
  · rw [F.e (no _ _ (by omega)), r8 i i0 i1 q c d0 d1]
    rfl
  · rw [F.e (no _ _ (by omega)), r9 i i0 i1 q c d0 d1]
    rfl
end FD
