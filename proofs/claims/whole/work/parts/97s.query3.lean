/-! PURE PART: what is asked by questions, both sides -/
section MQ3
variable {h : Hp} {x o : Nat} {S : Sx} {a q k : Int}
theorem and_no {P R : Prop} {_ : Decidable P} {_ : Decidable R} (n : ¬ (P ∧ R)) : (decide P && decide R) = false := by
  cases c : (decide P && decide R)
  · rfl
  · exfalso
    have := (Bool.and_eq_true _ _).mp c
    exact n ⟨of_decide_eq_true this.1, of_decide_eq_true this.2⟩
theorem SBo.qs (M : SBo h x o S) (c : ndB S 1 q = true) : QA h (x + 18 + 17 * q.toNat) (sQ S q) ∧ QW (sQ S q) ∧ q.toNat < 2 := by
  have n2 := M.2.2.2.1.2.2.1 1 (by omega) (by omega)
  have y : 0 ≤ q ∧ q < sN S 1 := of_decide_eq_true c
  have := (M.2.1.2.2.2.2.2 q.toNat (by omega)).2.1 (by omega)
  rw [show ((q.toNat : Nat) : Int) = q by omega, show x + 1 + 17 + 17 * q.toNat = x + 18 + 17 * q.toNat by omega] at this
  exact ⟨this, this.2.1, by omega⟩
theorem SBo.us (M : SBo h x o S) (c : ndB S 2 q = true) : HA h (x + 23 + 17 * q.toNat) (sU S q) ∧ HWf (sU S q) ∧ q.toNat < 2 := by
  have n2 := M.2.2.2.1.2.2.1 2 (by omega) (by omega)
  have y : 0 ≤ q ∧ q < sN S 2 := of_decide_eq_true c
  have := (M.2.1.2.2.2.2.2 q.toNat (by omega)).2.2 (by omega)
  rw [show ((q.toNat : Nat) : Int) = q by omega, show x + 1 + 22 + 17 * q.toNat = x + 23 + 17 * q.toNat by omega] at this
  exact ⟨this, this.2.1, by omega⟩
theorem SBo.at_ (M : SBo h x o S) (c : ndB S 0 a = true) : a.toNat < 2 := by
  have n2 := M.2.2.2.1.2.2.1 0 (by omega) (by omega)
  have y : 0 ≤ a ∧ a < sN S 0 := of_decide_eq_true c
  omega
theorem SBo.qAt (M : SBo h x o S) (q0 : -2147483648 ≤ q) (q1 : q < 2147483648) : m_X9_questionsAt (x + 1) (J q) h = some (if ndB S 1 q = true then x + 18 + 17 * q.toNat else 0) := by
  rw [M.2.1.questionsAt M.2.2.2.1 q0 q1, show x + 1 + 17 + 17 * q.toNat = x + 18 + 17 * q.toNat by omega]
theorem SBo.uAt (M : SBo h x o S) (q0 : -2147483648 ≤ q) (q1 : q < 2147483648) : m_X9_huntAt (x + 1) (J q) h = some (if ndB S 2 q = true then x + 23 + 17 * q.toNat else 0) := by
  rw [M.2.1.huntAt M.2.2.2.1 q0 q1, show x + 1 + 22 + 17 * q.toNat = x + 23 + 17 * q.toNat by omega]
theorem SBo.aAt (M : SBo h x o S) (a0 : -2147483648 ≤ a) (a1 : a < 2147483648) : m_X9_archiveAt (x + 1) (J a) h = some (if ndB S 0 a = true then x + 8 + 17 * a.toNat else 0) := by
  rw [M.2.1.archiveAt M.2.2.2.1 a0 a1, show x + 1 + 7 + 17 * a.toNat = x + 8 + 17 * a.toNat by omega]
theorem SBo.qP (M : SBo h x o S) (q0 : -2147483648 ≤ q) (q1 : q < 2147483648) {α : Type} (N : Option α) (F : Nat → Option α) : ((gfR h x 11 0).bind fun x1 => (rc h x1 9 (m_X9_questionsAt x1 (J q) h)).bind fun x2 => (nz x2).bind fun _ => if ¬ x2 = 0 then F x2 else N) = if ndB S 1 q = true then F (x + 18 + 17 * q.toNat) else N := by
  rw [M.r0, bs, rc_ok M.2.1.tag, M.qAt q0 q1, bs]
  have x6 := M.2.2.2.2.2
  by_cases c : ndB S 1 q = true
  · have := (M.qs c).2.2
    rw [if_pos c, if_pos c, nz_ok (by omega), bs, if_pos (by omega)]
  · rw [if_neg c, if_neg c, nz_ok (by omega), bs, if_neg (fun q => q rfl)]
theorem SBo.uP (M : SBo h x o S) (q0 : -2147483648 ≤ q) (q1 : q < 2147483648) {α : Type} (N : Option α) (F : Nat → Option α) : ((gfR h x 11 0).bind fun x1 => (rc h x1 9 (m_X9_huntAt x1 (J q) h)).bind fun x2 => (nz x2).bind fun _ => if ¬ x2 = 0 then F x2 else N) = if ndB S 2 q = true then F (x + 23 + 17 * q.toNat) else N := by
  rw [M.r0, bs, rc_ok M.2.1.tag, M.uAt q0 q1, bs]
  have x6 := M.2.2.2.2.2
  by_cases c : ndB S 2 q = true
  · have := (M.us c).2.2
    rw [if_pos c, if_pos c, nz_ok (by omega), bs, if_pos (by omega)]
  · rw [if_neg c, if_neg c, nz_ok (by omega), bs, if_neg (fun q => q rfl)]
/-- the class finds archive and questions -/
theorem SBo.aq (M : SBo h x o S) (a0 : -2147483648 ≤ a) (a1 : a < 2147483648) (q0 : -2147483648 ≤ q) (q1 : q < 2147483648) {α : Type} (N : Option α) (F : Nat → Nat → Option α) : ((gfR h x 11 0).bind fun x1 => (rc h x1 9 (m_X9_archiveAt x1 (J a) h)).bind fun x2 => (gfR h x 11 0).bind fun x3 => (rc h x3 9 (m_X9_questionsAt x3 (J q) h)).bind fun x4 => (nz x2).bind fun _ => if x2 = 0 then N else (nz x4).bind fun _ => if x4 = 0 then N else F x2 x4) = if (ndB S 0 a && ndB S 1 q) = true then F (x + 8 + 17 * a.toNat) (x + 18 + 17 * q.toNat) else N := by
  rw [M.r0, bs, rc_ok M.2.1.tag, M.aAt a0 a1, bs, bs, rc_ok M.2.1.tag, M.qAt q0 q1, bs]
  have x6 := M.2.2.2.2.2
  cases ca : ndB S 0 a
  · rw [if_neg (by simp), nz_ok (by omega), bs, if_pos rfl]
    rfl
  · have y := M.at_ ca
    rw [if_pos rfl, nz_ok (by omega), bs, if_neg (by omega)]
    cases cq : ndB S 1 q
    · rw [if_neg (by simp), nz_ok (by omega), bs, if_pos rfl]
      rfl
    · have y := (M.qs cq).2.2
      rw [if_pos rfl, nz_ok (by omega), bs, if_neg (by omega)]
      rfl
theorem SBo.aq2 (M : SBo h x o S) (a0 : -2147483648 ≤ a) (a1 : a < 2147483648) (q0 : -2147483648 ≤ q) (q1 : q < 2147483648) {α : Type} (N : Option α) (F : Nat → Nat → Option α) : ((gfR h x 11 0).bind fun x1 => (rc h x1 9 (m_X9_archiveAt x1 (J a) h)).bind fun x2 => (gfR h x 11 0).bind fun x3 => (rc h x3 9 (m_X9_questionsAt x3 (J q) h)).bind fun x4 => (nz x2).bind fun _ => if x2 = 0 then N else (nz x4).bind fun _ => if ¬ x4 = 0 then F x2 x4 else N) = if (ndB S 0 a && ndB S 1 q) = true then F (x + 8 + 17 * a.toNat) (x + 18 + 17 * q.toNat) else N := by
  rw [M.r0, bs, rc_ok M.2.1.tag, M.aAt a0 a1, bs, bs, rc_ok M.2.1.tag, M.qAt q0 q1, bs]
  have x6 := M.2.2.2.2.2
  cases ca : ndB S 0 a
  · rw [if_neg (by simp), nz_ok (by omega), bs, if_pos rfl]
    rfl
  · have y := M.at_ ca
    rw [if_pos rfl, nz_ok (by omega), bs, if_neg (by omega)]
    cases cq : ndB S 1 q
    · rw [if_neg (by simp), nz_ok (by omega), bs, if_neg (fun q => q rfl)]
      rfl
    · have y := (M.qs cq).2.2
      rw [if_pos rfl, nz_ok (by omega), bs, if_pos (by omega)]
      rfl
theorem SBo.au2 (M : SBo h x o S) (a0 : -2147483648 ≤ a) (a1 : a < 2147483648) (q0 : -2147483648 ≤ q) (q1 : q < 2147483648) {α : Type} (N : Option α) (F : Nat → Nat → Option α) : ((gfR h x 11 0).bind fun x1 => (rc h x1 9 (m_X9_archiveAt x1 (J a) h)).bind fun x2 => (gfR h x 11 0).bind fun x3 => (rc h x3 9 (m_X9_huntAt x3 (J q) h)).bind fun x4 => (nz x2).bind fun _ => if x2 = 0 then N else (nz x4).bind fun _ => if ¬ x4 = 0 then F x2 x4 else N) = if (ndB S 0 a && ndB S 2 q) = true then F (x + 8 + 17 * a.toNat) (x + 23 + 17 * q.toNat) else N := by
  rw [M.r0, bs, rc_ok M.2.1.tag, M.aAt a0 a1, bs, bs, rc_ok M.2.1.tag, M.uAt q0 q1, bs]
  have x6 := M.2.2.2.2.2
  cases ca : ndB S 0 a
  · rw [if_neg (by simp), nz_ok (by omega), bs, if_pos rfl]
    rfl
  · have y := M.at_ ca
    rw [if_pos rfl, nz_ok (by omega), bs, if_neg (by omega)]
    cases cq : ndB S 2 q
    · rw [if_neg (by simp), nz_ok (by omega), bs, if_neg (fun q => q rfl)]
      rfl
    · have y := (M.us cq).2.2
      rw [if_pos rfl, nz_ok (by omega), bs, if_pos (by omega)]
      rfl
theorem RQ.isAsking {Q : Int → Int} (G : RQ h o Q) (k0 : -2147483648 ≤ k) (k1 : k < 2147483648) : m_X12_isAsking o (J k) h = some (J (b01 (decide (0 ≤ k ∧ k < Q 0)))) := by
  have q0 := G.2.1.1
  have em := G.many
  by_cases c : 0 ≤ k ∧ k < Q 0
  · rw [decide_eq_true c]
    have ei : m_X12_in (J k) (J 0) (J (Q 0 - 1)) h = some (J 1) := X12_in_T (by omega) (by omega) (by omega)
    simp (disch := omega) only [m_X12_isAsking, rc_ok G.tag, em, ei, zb1, lm8, lm2, lm1, l0, l1, l2, l3, l4, l5, l6, l7, l8, l9, l10, l11, l12, l13, l14, l15, l16, l17, l18, l19, l20, l21, l22, l23, l24, l25, l27, l31, l32, l40, l46, l48, l50, l57, l59, l63, l86, l96, l97, l100, l110, l114, l122, l127, l200, l255, l300, l319, l320, l340, l441, l456, l580, l600, l800, l886, l1206, l1526, J_add, J_sub, J_mul, J_neg, J_lt, J_le, J_eq, jT, jF, iT, iF, eT, eF, aT, aF, ite_true, ite_false, ite_not, bs]
    rfl
  · rw [decide_eq_false c]
    have ei : m_X12_in (J k) (J 0) (J (Q 0 - 1)) h = some (J 0) := X12_in_F (by omega) (by omega) (by omega) (by omega)
    simp (disch := omega) only [m_X12_isAsking, rc_ok G.tag, em, ei, zb0, lm8, lm2, lm1, l0, l1, l2, l3, l4, l5, l6, l7, l8, l9, l10, l11, l12, l13, l14, l15, l16, l17, l18, l19, l20, l21, l22, l23, l24, l25, l27, l31, l32, l40, l46, l48, l50, l57, l59, l63, l86, l96, l97, l100, l110, l114, l122, l127, l200, l255, l300, l319, l320, l340, l441, l456, l580, l600, l800, l886, l1206, l1526, J_add, J_sub, J_mul, J_neg, J_lt, J_le, J_eq, jT, jF, iT, iF, eT, eF, aT, aF, ite_true, ite_false, ite_not, bs]
    rfl
/-- the reference looks after all questions -/
theorem SBo.lay (M : SBo h x o S) (a0 : -2147483648 ≤ a) (a1 : a < 2147483648) (q0 : -2147483648 ≤ q) (q1 : q < 2147483648) : ∃ g, (∀ (F : Int32 × Hp → Option (Int32 × Hp)), ((pfI h o 12 0 (0 : Int32)).bind fun hh1 => (rc hh1 o 12 (m_X12_layHeld o (J a) (J q) hh1)).bind F) = F (J (b01 (ndB S 0 a && ndB S 1 q)), g)) ∧ FR (Asc x o) h g ∧ ((ndB S 0 a && ndB S 1 q) = true → RM g o (sT S a) ∧ RQ g o (sQ S q) ∧ RHe g o (sT S a) (sQ S q) (sQ S q 0)) := by
  have T := M.2.2.1.1
  have p1 : pfI h o 12 0 (J 0) = some (wE h o 0 0) := pfI_ok T.tag
  have F1 : FR (Asc x o) h (wE h o 0 0) := FR.wE (A := Asc x o) (Or.inr (Or.inl rfl))
  generalize wE h o 0 0 = g0 at *
  have M0 := M.frame F1
  obtain ⟨g1, e1, F2, R1⟩ := M0.2.2.1.asking M0.2.2.2.1 q0 q1
  have F2' : FR (Asc x o) g0 g1 := F2.mono (fun b k q => by unfold Asc; omega)
  have M1 := M0.frame F2'
  have pre : ∀ F : Int32 × Hp → Option (Int32 × Hp), ((pfI h o 12 0 (0 : Int32)).bind fun hh1 => (rc hh1 o 12 (m_X12_layHeld o (J a) (J q) hh1)).bind F) = (if J (b01 (ndB S 1 q)) = 0 then some ((0 : Int32), g1) else (rc g1 o 12 (m_X12_hand o (J a) g1)).bind fun x2 => if ¬ x2.1 = 0 then (l_X12_layHeld_20 o (0 : Int32) x2.2) else some ((0 : Int32), x2.2)).bind F := fun F => by
    rw [show (0 : Int32) = J 0 from rfl, p1, bs, rc_ok M0.2.2.1.1.tag]
    unfold m_X12_layHeld
    rw [rc_ok M0.2.2.1.1.tag, e1, bs]
    rfl
  cases cq : ndB S 1 q
  · rw [Bool.and_false]
    refine ⟨g1, fun F => ?_, F1.trans F2', fun y => by cases y⟩
    rw [pre, cq, if_pos (show (J (b01 false) : Int32) = 0 from rfl), bs]
    rfl
  · rw [Bool.and_true]
    obtain ⟨g2, e2, F3, R2⟩ := M1.2.2.1.hand M1.2.2.2.1 a0 a1
    have F3' : FR (Asc x o) g1 g2 := F3.mono (fun b k q => by unfold AHd at q; unfold Asc; omega)
    cases ca : ndB S 0 a
    · refine ⟨g2, fun F => ?_, (F1.trans F2').trans F3', fun y => by cases y⟩
      rw [pre, cq, if_neg (show ¬ (J (b01 true) : Int32) = 0 by decide), rc_ok M1.2.2.1.1.tag, e2, ca, bs, if_neg (fun q => q rfl), bs]
      rfl
    · have RMg := R2 ca
      have RQg := (R1 cq).frame F3 (by unfold AHd; omega) (fun k => by unfold AHd; omega)
      obtain ⟨g3, e3, F4, H4⟩ := RMg.layLoop RQg
      refine ⟨g3, fun F => ?_, ((F1.trans F2').trans F3').trans (F4.mono (fun b k q => by unfold AHe at q; unfold Asc; omega)), fun _ => ⟨RMg.frHe F4, RQg.frHe F4, H4⟩⟩
      rw [pre, cq, if_neg (show ¬ (J (b01 true) : Int32) = 0 by decide), rc_ok M1.2.2.1.1.tag, e2, ca, bs, if_pos (show ¬ (J (b01 true) : Int32) = 0 by decide)]
      rw [show (l_X12_layHeld_20 o (0 : Int32) (J (b01 true), g2).2) = some (J 1, g3) from e3, bs]
      rfl
/-- the class looks after all questions up to one -/
theorem SBo.look (M : SBo h x o S) (ca : ndB S 0 a = true) (cq : ndB S 1 q = true) {last : Int} (l0_ : -1 ≤ last) (l1_ : last < sQ S q 0) : ∃ h', m_X8_look (x + 68) (x + 8 + 17 * a.toNat) (x + 18 + 17 * q.toNat) (J last) h = some h' ∧ FR (Asc x o) h h' ∧ SC h' (x + 68) (sT S a) (sQ S q) (last + 1) ∧ SBo h' x o S := by
  have y := M.at_ ca
  obtain ⟨G, -, y2⟩ := M.qs cq
  obtain ⟨h', e, F, C⟩ := (M.arch ca).1.look G M.se (by omega) (by omega) l0_ l1_
  have F' : FR (Asc x o) h h' := F.mono (fun b k q => by unfold ASe at q; unfold Asc; omega)
  exact ⟨h', e, F', C, M.frame F'⟩
theorem SBo.holds (M : SBo h x o S) {d v : Int} (a0 : -2147483648 ≤ a) (a1 : a < 2147483648) (q0 : -2147483648 ≤ q) (q1 : q < 2147483648) (k0 : -2147483648 ≤ k) (k1 : k < 2147483648) (d0 : -2147483648 ≤ d) (d1 : d < 2147483648) (v0 : -2147483648 ≤ v) (v1 : v < 2147483648) : Qh h x o (m_X11_holds x (J a) (J q) (J k) (J d) (J v) h) (m_X12_holds o (J a) (J q) (J k) (J d) (J v)) := by
  unfold Qh m_X11_holds
  rw [M.aq a0 a1 q0 q1]
  by_cases c : (ndB S 0 a && ndB S 1 q) = true
  · rw [if_pos c]
    obtain ⟨ca, cq⟩ := (Bool.and_eq_true _ _).mp c
    obtain ⟨G, WQ, -⟩ := M.qs cq
    have C := (M.arch ca).1
    have A := (M.wfA ca).1
    have hh := G.has k0 k1
    by_cases hk : 0 ≤ k ∧ k < sQ S q 0
    · rw [decide_eq_true hk.1, decide_eq_true hk.2, Bool.true_and] at hh
      by_cases hv : vvT (sT S a) d v
      · have hb := A.vb hv
        have hc := C.hasVerT hv
        obtain ⟨h1, e1, F1, SC1, M1⟩ := M.look ca cq (last := k) (by omega) hk.2
        have he := SC1.held M1.se A (k := k) (d := d) hk.1 (by omega) (by have := WQ.1; omega) hb.1 hv.2.1
        have lt := HE_lt A WQ hk.1 hk.2 hb.1 hb.2.1
        have eb := X5_bit_ok (h := h1) lt v0 v1
        obtain ⟨g, e, F, R⟩ := M1.lay a0 a1 q0 q1
        obtain ⟨RMg, RQg, RHg⟩ := R c
        have ia := RQg.isAsking k0 k1
        rw [decide_eq_true hk] at ia
        have hr := RMg.isVerT hv
        have cell := RHg.cell RMg WQ hk.1 hk.2 hb.1 hb.2.1
        have eh := X12_has_ok (h := g) lt hb.2.2.1 (by omega)
        refine ⟨b01 (bt (HE (sT S a) (sQ S q) k d) v), h1, g, ?_, ?_, F1.trans F, F1⟩
        · generalize HE (sT S a) (sQ S q) k d = m at *
          simp (disch := omega) only [rc_ok G.tag, hh, rc_ok C.tag, hc, M.r4, rc_ok M.se.1, e1, M1.r4, rc_ok M1.se.1, he, eb, bI, bN, cond_true, lm8, lm2, lm1, l0, l1, l2, l3, l4, l5, l6, l7, l8, l9, l10, l11, l12, l13, l14, l15, l16, l17, l18, l19, l20, l21, l22, l23, l24, l25, l27, l31, l32, l40, l46, l48, l50, l57, l59, l63, l86, l96, l97, l100, l110, l114, l122, l127, l200, l255, l300, l319, l320, l340, l441, l456, l580, l600, l800, l886, l1206, l1526, J_add, J_sub, J_mul, J_neg, J_lt, J_le, J_eq, jT, jF, iT, iF, eT, eF, aT, aF, ite_true, ite_false, ite_not, bs]
        · unfold m_X12_holds
          rw [e, c]
          generalize HE (sT S a) (sQ S q) k d = m at *
          simp (disch := omega) only [rc_ok RMg.tag, ia, hr, RMg.1.r29, cell, eh, j_X12_holds_59, bI, bN, bJ, cond_true, lm8, lm2, lm1, l0, l1, l2, l3, l4, l5, l6, l7, l8, l9, l10, l11, l12, l13, l14, l15, l16, l17, l18, l19, l20, l21, l22, l23, l24, l25, l27, l31, l32, l40, l46, l48, l50, l57, l59, l63, l86, l96, l97, l100, l110, l114, l122, l127, l200, l255, l300, l319, l320, l340, l441, l456, l580, l600, l800, l886, l1206, l1526, J_add, J_sub, J_mul, J_neg, J_lt, J_le, J_eq, jT, jF, iT, iF, eT, eF, aT, aF, ite_true, ite_false, ite_not, bs]
      · have hc := C.hasVerF hv d0 d1 v0 v1
        obtain ⟨g, e, F, R⟩ := M.lay a0 a1 q0 q1
        obtain ⟨RMg, RQg, RHg⟩ := R c
        have ia := RQg.isAsking k0 k1
        rw [decide_eq_true hk] at ia
        have hr := RMg.isVerF hv d0 d1 v0 v1
        refine ⟨-1, h, g, ?_, ?_, F, FR.refl _ _⟩
        · simp (disch := omega) only [rc_ok G.tag, hh, rc_ok C.tag, hc, lm1, bI, bN, cond_true, lm8, lm2, lm1, l0, l1, l2, l3, l4, l5, l6, l7, l8, l9, l10, l11, l12, l13, l14, l15, l16, l17, l18, l19, l20, l21, l22, l23, l24, l25, l27, l31, l32, l40, l46, l48, l50, l57, l59, l63, l86, l96, l97, l100, l110, l114, l122, l127, l200, l255, l300, l319, l320, l340, l441, l456, l580, l600, l800, l886, l1206, l1526, J_add, J_sub, J_mul, J_neg, J_lt, J_le, J_eq, jT, jF, iT, iF, eT, eF, aT, aF, ite_true, ite_false, ite_not, bs]
        · unfold m_X12_holds
          rw [e, c]
          simp (disch := omega) only [rc_ok RMg.tag, ia, hr, lm1, bI, bN, cond_true, lm8, lm2, lm1, l0, l1, l2, l3, l4, l5, l6, l7, l8, l9, l10, l11, l12, l13, l14, l15, l16, l17, l18, l19, l20, l21, l22, l23, l24, l25, l27, l31, l32, l40, l46, l48, l50, l57, l59, l63, l86, l96, l97, l100, l110, l114, l122, l127, l200, l255, l300, l319, l320, l340, l441, l456, l580, l600, l800, l886, l1206, l1526, J_add, J_sub, J_mul, J_neg, J_lt, J_le, J_eq, jT, jF, iT, iF, eT, eF, aT, aF, ite_true, ite_false, ite_not, bs]
    · rw [and_no hk] at hh
      obtain ⟨g, e, F, R⟩ := M.lay a0 a1 q0 q1
      obtain ⟨RMg, RQg, RHg⟩ := R c
      have ia := RQg.isAsking k0 k1
      rw [decide_eq_false hk] at ia
      refine ⟨-1, h, g, ?_, ?_, F, FR.refl _ _⟩
      · simp (disch := omega) only [rc_ok G.tag, hh, lm1, bI, bN, cond_false, lm8, lm2, lm1, l0, l1, l2, l3, l4, l5, l6, l7, l8, l9, l10, l11, l12, l13, l14, l15, l16, l17, l18, l19, l20, l21, l22, l23, l24, l25, l27, l31, l32, l40, l46, l48, l50, l57, l59, l63, l86, l96, l97, l100, l110, l114, l122, l127, l200, l255, l300, l319, l320, l340, l441, l456, l580, l600, l800, l886, l1206, l1526, J_add, J_sub, J_mul, J_neg, J_lt, J_le, J_eq, jT, jF, iT, iF, eT, eF, aT, aF, ite_true, ite_false, ite_not, bs]
      · unfold m_X12_holds
        rw [e, c]
        simp (disch := omega) only [rc_ok RMg.tag, ia, lm1, bI, bN, cond_true, cond_false, lm8, lm2, lm1, l0, l1, l2, l3, l4, l5, l6, l7, l8, l9, l10, l11, l12, l13, l14, l15, l16, l17, l18, l19, l20, l21, l22, l23, l24, l25, l27, l31, l32, l40, l46, l48, l50, l57, l59, l63, l86, l96, l97, l100, l110, l114, l122, l127, l200, l255, l300, l319, l320, l340, l441, l456, l580, l600, l800, l886, l1206, l1526, J_add, J_sub, J_mul, J_neg, J_lt, J_le, J_eq, jT, jF, iT, iF, eT, eF, aT, aF, ite_true, ite_false, ite_not, bs]
  · have c' : (ndB S 0 a && ndB S 1 q) = false := by simpa using c
    obtain ⟨g, e, F, R⟩ := M.lay a0 a1 q0 q1
    rw [if_neg c]
    refine ⟨-1, h, g, rfl, ?_, F, FR.refl _ _⟩
    unfold m_X12_holds
    rw [e, c']
    exact if_pos rfl
end MQ3
