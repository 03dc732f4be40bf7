/-! PURE PART: question, fact, times, found, fits, both sides -/
section MQ5
variable {h : Hp} {x o : Nat} {S : Sx} {a q k : Int}
theorem SBo.times (M : SBo h x o S) {d v : Int} (a0 : -2147483648 ≤ a) (a1 : a < 2147483648) (q0 : -2147483648 ≤ q) (q1 : q < 2147483648) (k0 : -2147483648 ≤ k) (k1 : k < 2147483648) (d0 : -2147483648 ≤ d) (d1 : d < 2147483648) (v0 : -2147483648 ≤ v) (v1 : v < 2147483648) : Qy h x o (m_X11_times x (J a) (J q) (J k) (J d) (J v) h) (m_X12_times o (J a) (J q) (J k) (J d) (J v)) := by
  -- the reference's way in
  have T := M.2.2.1.1
  have p1 : pfI h o 12 0 (J 0) = some (wE h o 0 0) := pfI_ok T.tag
  have F1 : FR (Asc x o) h (wE h o 0 0) := FR.wE (A := Asc x o) (Or.inr (Or.inl rfl))
  generalize hg0 : wE h o 0 0 = g0 at *
  have M0 := M.frame F1
  obtain ⟨g1, e1, F2, R1⟩ := M0.2.2.1.asking M0.2.2.2.1 q0 q1
  have F2' : FR (Asc x o) g0 g1 := F2.mono (fun b k q => by unfold Asc; omega)
  have M1 := M0.frame F2'
  obtain ⟨g2, e2, F3, R2⟩ := M1.2.2.1.hand M1.2.2.2.1 a0 a1
  have F3' : FR (Asc x o) g1 g2 := F3.mono (fun b k q => by unfold AHd at q; unfold Asc; omega)
  have F03 := (F1.trans F2').trans F3'
  have hd : m_X12_times o (J a) (J q) (J k) (J d) (J v) h = if J (b01 (ndB S 1 q)) = 0 then some ((-1 : Int32), g1) else if J (b01 (ndB S 0 a)) = 0 then (some ((-1 : Int32), g2)) else (rc g2 o 12 (m_X12_isAsking o (J k) g2)).bind fun x3 => if x3 = 0 then (some ((-1 : Int32), g2)) else (rc g2 o 12 (m_X12_isVersion o (J d) (J v) g2)).bind fun x4 => if ¬ x4 = 0 then ((rc g2 o 12 (m_X12_ofAsking o (J k) (0 : Int32) g2)).bind fun x5 => if ¬ x5 = 0 then j_X12_times_64 (-1 : Int32) g2 else (rc g2 o 12 (m_X12_timesOf o (J k) (J d) (J v) g2)).bind fun x6 => j_X12_times_64 x6 g2) else some ((-1 : Int32), g2) := by
    unfold m_X12_times
    rw [show (0 : Int32) = J 0 from rfl, p1, bs, rc_ok M0.2.2.1.1.tag, e1, bs]
    split
    · rfl
    · rw [rc_ok M1.2.2.1.1.tag, e2, bs]
  unfold Qy m_X11_times
  rw [M.aq a0 a1 q0 q1, hd]
  cases cq : ndB S 1 q
  · rw [Bool.and_false]
    exact ⟨-1, g1, rfl, if_pos rfl, F1.trans F2'⟩
  · rw [Bool.and_true, if_neg (show ¬ (J (b01 true) : Int32) = 0 by decide)]
    cases ca : ndB S 0 a
    · exact ⟨-1, g2, rfl, if_pos rfl, F03⟩
    · rw [if_pos rfl, if_neg (show ¬ (J (b01 true) : Int32) = 0 by decide)]
      have RMg := R2 ca
      have RQg := (R1 cq).frame F3 (by unfold AHd; omega) (fun k => by unfold AHd; omega)
      obtain ⟨G, WQ, -⟩ := M.qs cq
      have C := (M.arch ca).1
      have hh := G.has k0 k1
      have ia := RQg.isAsking k0 k1
      by_cases hk : 0 ≤ k ∧ k < sQ S q 0
      · rw [decide_eq_true hk.1, decide_eq_true hk.2, Bool.true_and] at hh
        rw [decide_eq_true hk] at ia
        by_cases hv : vvT (sT S a) d v
        · have hc := C.hasVerT hv
          have hr := RMg.isVerT hv
          have kc := G.kindOf hk.1 hk.2
          have kr := RQg.kind hk.1 (by have := WQ.1; omega)
          have kb := (WQ.2 k hk.1 hk.2).1
          by_cases kz : qkT (sQ S q) k = 0
          · obtain ⟨y, pv, qv⟩ : ∃ y, m_X8_beginnings (x + 68) (x + 8 + 17 * a.toNat) (x + 18 + 17 * q.toNat) (J k) (J d) (J v) h = some (J y) ∧ m_X12_timesOf o (J k) (J d) (J v) g2 = some (J y) := ⟨_, C.beginnings G hk.1 hk.2 kz hv, RMg.timesOf RQg hk.1 hk.2 kz hv⟩
            rw [kz] at kc kr
            refine ⟨y, g2, ?_, ?_, F03⟩
            · simp (disch := omega) only [rc_ok G.tag, hh, rc_ok C.tag, hc, kc, M.r4, rc_ok M.se.1, pv, j_X11_times_82, bI, bN, cond_true, lm8, lm2, lm1, l0, l1, l2, l3, l4, l5, l6, l7, l8, l9, l10, l11, l12, l13, l14, l15, l16, l17, l18, l19, l20, l21, l22, l23, l24, l25, l27, l31, l32, l40, l46, l48, l50, l57, l59, l63, l86, l96, l97, l100, l110, l114, l122, l127, l200, l255, l300, l319, l320, l340, l441, l456, l580, l600, l800, l886, l1206, l1526, J_add, J_sub, J_mul, J_neg, J_lt, J_le, J_eq, jT, jF, iT, iF, eT, eF, aT, aF, ite_true, ite_false, ite_not, bs]
            · simp (disch := omega) only [rc_ok RMg.tag, ia, hr, kr, qv, j_X12_times_64, bI, bN, cond_true, lm8, lm2, lm1, l0, l1, l2, l3, l4, l5, l6, l7, l8, l9, l10, l11, l12, l13, l14, l15, l16, l17, l18, l19, l20, l21, l22, l23, l24, l25, l27, l31, l32, l40, l46, l48, l50, l57, l59, l63, l86, l96, l97, l100, l110, l114, l122, l127, l200, l255, l300, l319, l320, l340, l441, l456, l580, l600, l800, l886, l1206, l1526, J_add, J_sub, J_mul, J_neg, J_lt, J_le, J_eq, jT, jF, iT, iF, eT, eF, aT, aF, ite_true, ite_false, ite_not, bs]
          · generalize qkT (sQ S q) k = z at *
            have kz' : z < 0 ∨ 0 < z := by omega
            refine ⟨-1, g2, ?_, ?_, F03⟩
            · simp (disch := first | omega | exact kz') only [rc_ok G.tag, hh, rc_ok C.tag, hc, kc, j_X11_times_82, lm1, bI, bN, cond_true, lm8, lm2, lm1, l0, l1, l2, l3, l4, l5, l6, l7, l8, l9, l10, l11, l12, l13, l14, l15, l16, l17, l18, l19, l20, l21, l22, l23, l24, l25, l27, l31, l32, l40, l46, l48, l50, l57, l59, l63, l86, l96, l97, l100, l110, l114, l122, l127, l200, l255, l300, l319, l320, l340, l441, l456, l580, l600, l800, l886, l1206, l1526, J_add, J_sub, J_mul, J_neg, J_lt, J_le, J_eq, jT, jF, iT, iF, eT, eF, aT, aF, ite_true, ite_false, ite_not, bs]
            · simp (disch := first | omega | exact kz') only [rc_ok RMg.tag, ia, hr, kr, j_X12_times_64, lm1, bI, bN, cond_true, lm8, lm2, lm1, l0, l1, l2, l3, l4, l5, l6, l7, l8, l9, l10, l11, l12, l13, l14, l15, l16, l17, l18, l19, l20, l21, l22, l23, l24, l25, l27, l31, l32, l40, l46, l48, l50, l57, l59, l63, l86, l96, l97, l100, l110, l114, l122, l127, l200, l255, l300, l319, l320, l340, l441, l456, l580, l600, l800, l886, l1206, l1526, J_add, J_sub, J_mul, J_neg, J_lt, J_le, J_eq, jT, jF, iT, iF, eT, eF, aT, aF, ite_true, ite_false, ite_not, bs]
        · have hc := C.hasVerF hv d0 d1 v0 v1
          have hr := RMg.isVerF hv d0 d1 v0 v1
          refine ⟨-1, g2, ?_, ?_, F03⟩
          · simp (disch := omega) only [rc_ok G.tag, hh, rc_ok C.tag, hc, lm1, bI, bN, cond_true, lm8, lm2, lm1, l0, l1, l2, l3, l4, l5, l6, l7, l8, l9, l10, l11, l12, l13, l14, l15, l16, l17, l18, l19, l20, l21, l22, l23, l24, l25, l27, l31, l32, l40, l46, l48, l50, l57, l59, l63, l86, l96, l97, l100, l110, l114, l122, l127, l200, l255, l300, l319, l320, l340, l441, l456, l580, l600, l800, l886, l1206, l1526, J_add, J_sub, J_mul, J_neg, J_lt, J_le, J_eq, jT, jF, iT, iF, eT, eF, aT, aF, ite_true, ite_false, ite_not, bs]
          · simp (disch := omega) only [rc_ok RMg.tag, ia, hr, lm1, bI, bN, cond_true, lm8, lm2, lm1, l0, l1, l2, l3, l4, l5, l6, l7, l8, l9, l10, l11, l12, l13, l14, l15, l16, l17, l18, l19, l20, l21, l22, l23, l24, l25, l27, l31, l32, l40, l46, l48, l50, l57, l59, l63, l86, l96, l97, l100, l110, l114, l122, l127, l200, l255, l300, l319, l320, l340, l441, l456, l580, l600, l800, l886, l1206, l1526, J_add, J_sub, J_mul, J_neg, J_lt, J_le, J_eq, jT, jF, iT, iF, eT, eF, aT, aF, ite_true, ite_false, ite_not, bs]
      · rw [and_no hk] at hh
        rw [decide_eq_false hk] at ia
        refine ⟨-1, g2, ?_, ?_, F03⟩
        · simp (disch := omega) only [rc_ok G.tag, hh, lm1, bI, bN, cond_false, lm8, lm2, lm1, l0, l1, l2, l3, l4, l5, l6, l7, l8, l9, l10, l11, l12, l13, l14, l15, l16, l17, l18, l19, l20, l21, l22, l23, l24, l25, l27, l31, l32, l40, l46, l48, l50, l57, l59, l63, l86, l96, l97, l100, l110, l114, l122, l127, l200, l255, l300, l319, l320, l340, l441, l456, l580, l600, l800, l886, l1206, l1526, J_add, J_sub, J_mul, J_neg, J_lt, J_le, J_eq, jT, jF, iT, iF, eT, eF, aT, aF, ite_true, ite_false, ite_not, bs]
        · simp (disch := omega) only [rc_ok RMg.tag, ia, lm1, bI, bN, cond_false, lm8, lm2, lm1, l0, l1, l2, l3, l4, l5, l6, l7, l8, l9, l10, l11, l12, l13, l14, l15, l16, l17, l18, l19, l20, l21, l22, l23, l24, l25, l27, l31, l32, l40, l46, l48, l50, l57, l59, l63, l86, l96, l97, l100, l110, l114, l122, l127, l200, l255, l300, l319, l320, l340, l441, l456, l580, l600, l800, l886, l1206, l1526, J_add, J_sub, J_mul, J_neg, J_lt, J_le, J_eq, jT, jF, iT, iF, eT, eF, aT, aF, ite_true, ite_false, ite_not, bs]
theorem SBo.found (M : SBo h x o S) {w : Int} (a0 : -2147483648 ≤ a) (a1 : a < 2147483648) (q0 : -2147483648 ≤ q) (q1 : q < 2147483648) (k0 : -2147483648 ≤ k) (k1 : k < 2147483648) (w0 : -2147483648 ≤ w) (w1 : w < 2147483648) : Qh h x o (m_X11_found x (J a) (J q) (J k) (J w) h) (m_X12_found o (J a) (J q) (J k) (J w)) := by
  unfold Qh m_X11_found
  rw [M.aq a0 a1 q0 q1]
  by_cases c : (ndB S 0 a && ndB S 1 q) = true
  · rw [if_pos c]
    obtain ⟨ca, cq⟩ := (Bool.and_eq_true _ _).mp c
    obtain ⟨G, WQ, -⟩ := M.qs cq
    have hh := G.has k0 k1
    by_cases hk : 0 ≤ k ∧ k < sQ S q 0
    · rw [decide_eq_true hk.1, decide_eq_true hk.2, Bool.true_and] at hh
      obtain ⟨h1, e1, F1, SC1, M1⟩ := M.look ca cq (last := k) (by omega) hk.2
      obtain ⟨C1, D1, W1⟩ := M1.arch ca
      have wfA := M.wfA ca
      obtain ⟨g, e, F, R⟩ := M1.lay a0 a1 q0 q1
      obtain ⟨RMg, RQg, RHg⟩ := R c
      have ia := RQg.isAsking k0 k1
      rw [decide_eq_true hk] at ia
      have kn : k < k + 1 := by omega
      have kq : k + 1 ≤ sQ S q 0 := by omega
      have M1r := M1.r4
      have M1s := M1.se
      have hcl : ∀ v : Int, (if J w = 0 then ((gfR h1 x 11 4).bind fun x8 => (rc h1 x8 8 (m_X8_everIn x8 (x + 8 + 17 * a.toNat) (J k) h1)).bind fun x9 => some (x9, h1)) else if J w = 1 then ((gfR h1 x 11 4).bind fun x10 => (rc h1 x10 8 (m_X8_alwaysIn x10 (x + 8 + 17 * a.toNat) (J k) h1)).bind fun x11 => some (x11, h1)) else if J w = 2 then ((gfR h1 x 11 4).bind fun x12 => (rc h1 x12 8 (m_X8_changes x12 (x + 8 + 17 * a.toNat) (J k) h1)).bind fun x13 => some (x13, h1)) else if J w = 3 then ((gfR h1 x 11 4).bind fun x14 => (rc h1 x14 8 (m_X8_versionsHeld x14 (x + 8 + 17 * a.toNat) (J k) h1)).bind fun x15 => some (x15, h1)) else (rc h1 x 11 (m_X11_foundAt x (x + 8 + 17 * a.toNat) (J k) (J w) h1)).bind fun x16 => some (x16, h1)) = some (J v, h1) → ((rc h (x + 18 + 17 * q.toNat) 6 (m_X6_has (x + 18 + 17 * q.toNat) (J k) h)).bind fun x5 => if ¬ x5 = 0 then ((gfR h x 11 4).bind fun x6 => (rc h x6 8 (m_X8_look x6 (x + 8 + 17 * a.toNat) (x + 18 + 17 * q.toNat) (J k) h)).bind fun x7 => if J w = (0 : Int32) then ((gfR x7 x 11 4).bind fun x8 => (rc x7 x8 8 (m_X8_everIn x8 (x + 8 + 17 * a.toNat) (J k) x7)).bind fun x9 => some (x9, x7)) else if J w = (1 : Int32) then ((gfR x7 x 11 4).bind fun x10 => (rc x7 x10 8 (m_X8_alwaysIn x10 (x + 8 + 17 * a.toNat) (J k) x7)).bind fun x11 => some (x11, x7)) else if J w = (2 : Int32) then ((gfR x7 x 11 4).bind fun x12 => (rc x7 x12 8 (m_X8_changes x12 (x + 8 + 17 * a.toNat) (J k) x7)).bind fun x13 => some (x13, x7)) else if J w = (3 : Int32) then ((gfR x7 x 11 4).bind fun x14 => (rc x7 x14 8 (m_X8_versionsHeld x14 (x + 8 + 17 * a.toNat) (J k) x7)).bind fun x15 => some (x15, x7)) else (rc x7 x 11 (m_X11_foundAt x (x + 8 + 17 * a.toNat) (J k) (J w) x7)).bind fun x16 => some (x16, x7)) else some ((-1 : Int32), h)) = some (J v, h1) := fun v hv => by
        rw [rc_ok G.tag, hh, bs, if_pos (show ¬ (J (b01 true) : Int32) = 0 by decide), M.r4, bs, rc_ok M.se.1, e1, bs]
        exact hv
      have href : ∀ v g', ((if 0 ≤ J w then (if J w < (100 : Int32) then (if J w < (10 : Int32) then (if J w = (0 : Int32) then (j_X12_found_120 o (J k) (J w) g) else if J w = (1 : Int32) then (j_X12_found_120 o (J k) (J w) g) else if J w = (2 : Int32) then ((rc g o 12 (m_X12_changes o (J k) (-1 : Int32) g)).bind fun x3 => some (x3, g)) else if J w = (3 : Int32) then ((rc g o 12 (m_X12_versionsBy o (J k) g)).bind fun x4 => some (x4, g)) else some ((-1 : Int32), g)) else (rc g o 12 (m_X12_rank o (J k) (J w - (10 : Int32)) g)).bind fun x5 => some (x5, g)) else if (200 : Int32) ≤ J w then ((rc g o 12 (m_X12_changes o (J k) (J w - (200 : Int32)) g)).bind fun x6 => j_X12_found_68 x6 g) else (rc g o 12 (m_X12_asOf o (J k) (J w - (100 : Int32)) g)).bind fun x7 => j_X12_found_68 x7 g) else some ((-1 : Int32), g)) : Option (Int32 × Hp)) = some (J v, g') → m_X12_found o (J a) (J q) (J k) (J w) h1 = some (J v, g') := fun v g' hv => by
        unfold m_X12_found
        rw [e, c, if_neg (show ¬ (J (b01 true) : Int32) = 0 by decide), rc_ok RMg.tag, ia, bs, if_neg (show ¬ (J (b01 true) : Int32) = 0 by decide)]
        exact hv
      have out : ∀ v, (if J w = 0 then ((gfR h1 x 11 4).bind fun x8 => (rc h1 x8 8 (m_X8_everIn x8 (x + 8 + 17 * a.toNat) (J k) h1)).bind fun x9 => some (x9, h1)) else if J w = 1 then ((gfR h1 x 11 4).bind fun x10 => (rc h1 x10 8 (m_X8_alwaysIn x10 (x + 8 + 17 * a.toNat) (J k) h1)).bind fun x11 => some (x11, h1)) else if J w = 2 then ((gfR h1 x 11 4).bind fun x12 => (rc h1 x12 8 (m_X8_changes x12 (x + 8 + 17 * a.toNat) (J k) h1)).bind fun x13 => some (x13, h1)) else if J w = 3 then ((gfR h1 x 11 4).bind fun x14 => (rc h1 x14 8 (m_X8_versionsHeld x14 (x + 8 + 17 * a.toNat) (J k) h1)).bind fun x15 => some (x15, h1)) else (rc h1 x 11 (m_X11_foundAt x (x + 8 + 17 * a.toNat) (J k) (J w) h1)).bind fun x16 => some (x16, h1)) = some (J v, h1) → m_X12_found o (J a) (J q) (J k) (J w) h1 = some (J v, g) → ∃ v h1' h2, ((rc h (x + 18 + 17 * q.toNat) 6 (m_X6_has (x + 18 + 17 * q.toNat) (J k) h)).bind fun x5 => if ¬ x5 = 0 then ((gfR h x 11 4).bind fun x6 => (rc h x6 8 (m_X8_look x6 (x + 8 + 17 * a.toNat) (x + 18 + 17 * q.toNat) (J k) h)).bind fun x7 => if J w = (0 : Int32) then ((gfR x7 x 11 4).bind fun x8 => (rc x7 x8 8 (m_X8_everIn x8 (x + 8 + 17 * a.toNat) (J k) x7)).bind fun x9 => some (x9, x7)) else if J w = (1 : Int32) then ((gfR x7 x 11 4).bind fun x10 => (rc x7 x10 8 (m_X8_alwaysIn x10 (x + 8 + 17 * a.toNat) (J k) x7)).bind fun x11 => some (x11, x7)) else if J w = (2 : Int32) then ((gfR x7 x 11 4).bind fun x12 => (rc x7 x12 8 (m_X8_changes x12 (x + 8 + 17 * a.toNat) (J k) x7)).bind fun x13 => some (x13, x7)) else if J w = (3 : Int32) then ((gfR x7 x 11 4).bind fun x14 => (rc x7 x14 8 (m_X8_versionsHeld x14 (x + 8 + 17 * a.toNat) (J k) x7)).bind fun x15 => some (x15, x7)) else (rc x7 x 11 (m_X11_foundAt x (x + 8 + 17 * a.toNat) (J k) (J w) x7)).bind fun x16 => some (x16, x7)) else some ((-1 : Int32), h)) = some (J v, h1') ∧ m_X12_found o (J a) (J q) (J k) (J w) h1' = some (J v, h2) ∧ FR (Asc x o) h h2 ∧ FR (Asc x o) h h1' := fun v p1 p2 => ⟨v, h1, g, hcl v p1, p2, F1.trans F, F1⟩
      generalize x + 8 + 17 * a.toNat = o1 at *
      by_cases c0 : w = 0
      · obtain ⟨y, pv, qv⟩ : ∃ y, m_X8_everIn (x + 68) o1 (J k) h1 = some (J y) ∧ m_X12_docsBy o (J k) (J 0) g = some (J y) := ⟨_, C1.everIn WQ M1s SC1 kq hk.1 kn, RMg.docsBy WQ RHg hk.1 hk.2 (b := false)⟩
        refine out y ?_ (href y g ?_)
        · rw [c0]
          simp (disch := omega) only [M1r, rc_ok M1s.1, pv, lm8, lm2, lm1, l0, l1, l2, l3, l4, l5, l6, l7, l8, l9, l10, l11, l12, l13, l14, l15, l16, l17, l18, l19, l20, l21, l22, l23, l24, l25, l27, l31, l32, l40, l46, l48, l50, l57, l59, l63, l86, l96, l97, l100, l110, l114, l122, l127, l200, l255, l300, l319, l320, l340, l441, l456, l580, l600, l800, l886, l1206, l1526, J_add, J_sub, J_mul, J_neg, J_lt, J_le, J_eq, jT, jF, iT, iF, eT, eF, aT, aF, ite_true, ite_false, ite_not, bs]
        · rw [c0]
          simp (disch := omega) only [j_X12_found_120, j_X12_found_133, rc_ok RMg.tag, qv, lm8, lm2, lm1, l0, l1, l2, l3, l4, l5, l6, l7, l8, l9, l10, l11, l12, l13, l14, l15, l16, l17, l18, l19, l20, l21, l22, l23, l24, l25, l27, l31, l32, l40, l46, l48, l50, l57, l59, l63, l86, l96, l97, l100, l110, l114, l122, l127, l200, l255, l300, l319, l320, l340, l441, l456, l580, l600, l800, l886, l1206, l1526, J_add, J_sub, J_mul, J_neg, J_lt, J_le, J_eq, jT, jF, iT, iF, eT, eF, aT, aF, ite_true, ite_false, ite_not, bs]
      · have c0' : w < 0 ∨ 0 < w := by omega
        by_cases c1 : w = 1
        · obtain ⟨y, pv, qv⟩ : ∃ y, m_X8_alwaysIn (x + 68) o1 (J k) h1 = some (J y) ∧ m_X12_docsBy o (J k) (J 1) g = some (J y) := ⟨_, C1.alwaysIn WQ M1s SC1 kq hk.1 kn, RMg.docsBy WQ RHg hk.1 hk.2 (b := true)⟩
          refine out y ?_ (href y g ?_)
          · rw [c1]
            simp (disch := omega) only [M1r, rc_ok M1s.1, pv, lm8, lm2, lm1, l0, l1, l2, l3, l4, l5, l6, l7, l8, l9, l10, l11, l12, l13, l14, l15, l16, l17, l18, l19, l20, l21, l22, l23, l24, l25, l27, l31, l32, l40, l46, l48, l50, l57, l59, l63, l86, l96, l97, l100, l110, l114, l122, l127, l200, l255, l300, l319, l320, l340, l441, l456, l580, l600, l800, l886, l1206, l1526, J_add, J_sub, J_mul, J_neg, J_lt, J_le, J_eq, jT, jF, iT, iF, eT, eF, aT, aF, ite_true, ite_false, ite_not, bs]
          · rw [c1]
            simp (disch := omega) only [j_X12_found_120, j_X12_found_133, rc_ok RMg.tag, qv, lm8, lm2, lm1, l0, l1, l2, l3, l4, l5, l6, l7, l8, l9, l10, l11, l12, l13, l14, l15, l16, l17, l18, l19, l20, l21, l22, l23, l24, l25, l27, l31, l32, l40, l46, l48, l50, l57, l59, l63, l86, l96, l97, l100, l110, l114, l122, l127, l200, l255, l300, l319, l320, l340, l441, l456, l580, l600, l800, l886, l1206, l1526, J_add, J_sub, J_mul, J_neg, J_lt, J_le, J_eq, jT, jF, iT, iF, eT, eF, aT, aF, ite_true, ite_false, ite_not, bs]
        · have c1' : w < 1 ∨ 1 < w := by omega
          by_cases c2 : w = 2
          · have rch := RMg.changes wfA.2.1 WQ RHg hk.1 hk.2 (i := -1) (by omega) (by omega)
            rw [if_pos rfl] at rch
            obtain ⟨y, pv, qv⟩ : ∃ y, m_X8_changes (x + 68) o1 (J k) h1 = some (J y) ∧ m_X12_changes o (J k) (J (-1)) g = some (J y) := ⟨_, C1.changes D1 WQ M1s SC1 kq hk.1 kn, rch⟩
            refine out y ?_ (href y g ?_)
            · rw [c2]
              simp (disch := omega) only [M1r, rc_ok M1s.1, pv, lm8, lm2, lm1, l0, l1, l2, l3, l4, l5, l6, l7, l8, l9, l10, l11, l12, l13, l14, l15, l16, l17, l18, l19, l20, l21, l22, l23, l24, l25, l27, l31, l32, l40, l46, l48, l50, l57, l59, l63, l86, l96, l97, l100, l110, l114, l122, l127, l200, l255, l300, l319, l320, l340, l441, l456, l580, l600, l800, l886, l1206, l1526, J_add, J_sub, J_mul, J_neg, J_lt, J_le, J_eq, jT, jF, iT, iF, eT, eF, aT, aF, ite_true, ite_false, ite_not, bs]
            · rw [c2]
              simp (disch := omega) only [rc_ok RMg.tag, qv, lm1, lm8, lm2, lm1, l0, l1, l2, l3, l4, l5, l6, l7, l8, l9, l10, l11, l12, l13, l14, l15, l16, l17, l18, l19, l20, l21, l22, l23, l24, l25, l27, l31, l32, l40, l46, l48, l50, l57, l59, l63, l86, l96, l97, l100, l110, l114, l122, l127, l200, l255, l300, l319, l320, l340, l441, l456, l580, l600, l800, l886, l1206, l1526, J_add, J_sub, J_mul, J_neg, J_lt, J_le, J_eq, jT, jF, iT, iF, eT, eF, aT, aF, ite_true, ite_false, ite_not, bs]
          · have c2' : w < 2 ∨ 2 < w := by omega
            by_cases c3 : w = 3
            · obtain ⟨y, pv, qv⟩ : ∃ y, m_X8_versionsHeld (x + 68) o1 (J k) h1 = some (J y) ∧ m_X12_versionsBy o (J k) g = some (J y) := ⟨_, C1.versionsHeld WQ M1s SC1 kq hk.1 kn, RMg.versionsBy WQ RHg hk.1 hk.2⟩
              refine out y ?_ (href y g ?_)
              · rw [c3]
                simp (disch := omega) only [M1r, rc_ok M1s.1, pv, lm8, lm2, lm1, l0, l1, l2, l3, l4, l5, l6, l7, l8, l9, l10, l11, l12, l13, l14, l15, l16, l17, l18, l19, l20, l21, l22, l23, l24, l25, l27, l31, l32, l40, l46, l48, l50, l57, l59, l63, l86, l96, l97, l100, l110, l114, l122, l127, l200, l255, l300, l319, l320, l340, l441, l456, l580, l600, l800, l886, l1206, l1526, J_add, J_sub, J_mul, J_neg, J_lt, J_le, J_eq, jT, jF, iT, iF, eT, eF, aT, aF, ite_true, ite_false, ite_not, bs]
              · rw [c3]
                simp (disch := omega) only [rc_ok RMg.tag, qv, lm8, lm2, lm1, l0, l1, l2, l3, l4, l5, l6, l7, l8, l9, l10, l11, l12, l13, l14, l15, l16, l17, l18, l19, l20, l21, l22, l23, l24, l25, l27, l31, l32, l40, l46, l48, l50, l57, l59, l63, l86, l96, l97, l100, l110, l114, l122, l127, l200, l255, l300, l319, l320, l340, l441, l456, l580, l600, l800, l886, l1206, l1526, J_add, J_sub, J_mul, J_neg, J_lt, J_le, J_eq, jT, jF, iT, iF, eT, eF, aT, aF, ite_true, ite_false, ite_not, bs]
            · have c3' : w < 3 ∨ 3 < w := by omega
              have fa : ∀ y, m_X11_foundAt x o1 (J k) (J w) h1 = some (J y) → (if J w = 0 then ((gfR h1 x 11 4).bind fun x8 => (rc h1 x8 8 (m_X8_everIn x8 o1 (J k) h1)).bind fun x9 => some (x9, h1)) else if J w = 1 then ((gfR h1 x 11 4).bind fun x10 => (rc h1 x10 8 (m_X8_alwaysIn x10 o1 (J k) h1)).bind fun x11 => some (x11, h1)) else if J w = 2 then ((gfR h1 x 11 4).bind fun x12 => (rc h1 x12 8 (m_X8_changes x12 o1 (J k) h1)).bind fun x13 => some (x13, h1)) else if J w = 3 then ((gfR h1 x 11 4).bind fun x14 => (rc h1 x14 8 (m_X8_versionsHeld x14 o1 (J k) h1)).bind fun x15 => some (x15, h1)) else (rc h1 x 11 (m_X11_foundAt x o1 (J k) (J w) h1)).bind fun x16 => some (x16, h1)) = some (J y, h1) := fun y hy => by
                simp (disch := first | omega | assumption) only [rc_ok M1.tag, hy, lm8, lm2, lm1, l0, l1, l2, l3, l4, l5, l6, l7, l8, l9, l10, l11, l12, l13, l14, l15, l16, l17, l18, l19, l20, l21, l22, l23, l24, l25, l27, l31, l32, l40, l46, l48, l50, l57, l59, l63, l86, l96, l97, l100, l110, l114, l122, l127, l200, l255, l300, l319, l320, l340, l441, l456, l580, l600, l800, l886, l1206, l1526, J_add, J_sub, J_mul, J_neg, J_lt, J_le, J_eq, jT, jF, iT, iF, eT, eF, aT, aF, ite_true, ite_false, ite_not, bs]
              by_cases c10 : w < 10
              · refine out (-1) (fa (-1) ?_) (href (-1) g ?_)
                · simp (disch := omega) only [m_X11_foundAt, lm1, lm8, lm2, lm1, l0, l1, l2, l3, l4, l5, l6, l7, l8, l9, l10, l11, l12, l13, l14, l15, l16, l17, l18, l19, l20, l21, l22, l23, l24, l25, l27, l31, l32, l40, l46, l48, l50, l57, l59, l63, l86, l96, l97, l100, l110, l114, l122, l127, l200, l255, l300, l319, l320, l340, l441, l456, l580, l600, l800, l886, l1206, l1526, J_add, J_sub, J_mul, J_neg, J_lt, J_le, J_eq, jT, jF, iT, iF, eT, eF, aT, aF, ite_true, ite_false, ite_not, bs]
                · by_cases cn : w < 0
                  · simp (disch := first | omega | assumption) only [lm1, lm8, lm2, lm1, l0, l1, l2, l3, l4, l5, l6, l7, l8, l9, l10, l11, l12, l13, l14, l15, l16, l17, l18, l19, l20, l21, l22, l23, l24, l25, l27, l31, l32, l40, l46, l48, l50, l57, l59, l63, l86, l96, l97, l100, l110, l114, l122, l127, l200, l255, l300, l319, l320, l340, l441, l456, l580, l600, l800, l886, l1206, l1526, J_add, J_sub, J_mul, J_neg, J_lt, J_le, J_eq, jT, jF, iT, iF, eT, eF, aT, aF, ite_true, ite_false, ite_not, bs]
                  · simp (disch := first | omega | assumption) only [lm1, lm8, lm2, lm1, l0, l1, l2, l3, l4, l5, l6, l7, l8, l9, l10, l11, l12, l13, l14, l15, l16, l17, l18, l19, l20, l21, l22, l23, l24, l25, l27, l31, l32, l40, l46, l48, l50, l57, l59, l63, l86, l96, l97, l100, l110, l114, l122, l127, l200, l255, l300, l319, l320, l340, l441, l456, l580, l600, l800, l886, l1206, l1526, J_add, J_sub, J_mul, J_neg, J_lt, J_le, J_eq, jT, jF, iT, iF, eT, eF, aT, aF, ite_true, ite_false, ite_not, bs]
              · by_cases c100 : w < 100
                · obtain ⟨y, pv, qv⟩ : ∃ y, m_X8_ranked (x + 68) o1 (J k) (J (w - 10)) h1 = some (J y) ∧ m_X12_rank o (J k) (J (w - 10)) g = some (J y) := ⟨_, C1.ranked WQ M1s SC1 kq hk.1 kn (by omega) (by omega), RMg.rank WQ RHg hk.1 hk.2 (by omega) (by omega)⟩
                  refine out y (fa y ?_) (href y g ?_)
                  · simp (disch := omega) only [m_X11_foundAt, M1r, rc_ok M1s.1, pv, lm8, lm2, lm1, l0, l1, l2, l3, l4, l5, l6, l7, l8, l9, l10, l11, l12, l13, l14, l15, l16, l17, l18, l19, l20, l21, l22, l23, l24, l25, l27, l31, l32, l40, l46, l48, l50, l57, l59, l63, l86, l96, l97, l100, l110, l114, l122, l127, l200, l255, l300, l319, l320, l340, l441, l456, l580, l600, l800, l886, l1206, l1526, J_add, J_sub, J_mul, J_neg, J_lt, J_le, J_eq, jT, jF, iT, iF, eT, eF, aT, aF, ite_true, ite_false, ite_not, bs]
                  · simp (disch := omega) only [rc_ok RMg.tag, qv, lm8, lm2, lm1, l0, l1, l2, l3, l4, l5, l6, l7, l8, l9, l10, l11, l12, l13, l14, l15, l16, l17, l18, l19, l20, l21, l22, l23, l24, l25, l27, l31, l32, l40, l46, l48, l50, l57, l59, l63, l86, l96, l97, l100, l110, l114, l122, l127, l200, l255, l300, l319, l320, l340, l441, l456, l580, l600, l800, l886, l1206, l1526, J_add, J_sub, J_mul, J_neg, J_lt, J_le, J_eq, jT, jF, iT, iF, eT, eF, aT, aF, ite_true, ite_false, ite_not, bs]
                · by_cases c200 : w < 200
                  · obtain ⟨y, pv, qv⟩ : ∃ y, m_X8_asOf (x + 68) o1 (J k) (J (w - 100)) h1 = some (J y) ∧ m_X12_asOf o (J k) (J (w - 100)) g = some (J y) := ⟨_, C1.asOf D1 WQ M1s SC1 kq hk.1 kn (by omega) (by omega), RMg.asOf wfA.2.1 WQ RHg hk.1 hk.2 (by omega) (by omega)⟩
                    refine out y (fa y ?_) (href y g ?_)
                    · simp (disch := omega) only [m_X11_foundAt, j_X11_foundAt_65, M1r, rc_ok M1s.1, pv, lm8, lm2, lm1, l0, l1, l2, l3, l4, l5, l6, l7, l8, l9, l10, l11, l12, l13, l14, l15, l16, l17, l18, l19, l20, l21, l22, l23, l24, l25, l27, l31, l32, l40, l46, l48, l50, l57, l59, l63, l86, l96, l97, l100, l110, l114, l122, l127, l200, l255, l300, l319, l320, l340, l441, l456, l580, l600, l800, l886, l1206, l1526, J_add, J_sub, J_mul, J_neg, J_lt, J_le, J_eq, jT, jF, iT, iF, eT, eF, aT, aF, ite_true, ite_false, ite_not, bs]
                    · simp (disch := omega) only [rc_ok RMg.tag, qv, j_X12_found_68, lm8, lm2, lm1, l0, l1, l2, l3, l4, l5, l6, l7, l8, l9, l10, l11, l12, l13, l14, l15, l16, l17, l18, l19, l20, l21, l22, l23, l24, l25, l27, l31, l32, l40, l46, l48, l50, l57, l59, l63, l86, l96, l97, l100, l110, l114, l122, l127, l200, l255, l300, l319, l320, l340, l441, l456, l580, l600, l800, l886, l1206, l1526, J_add, J_sub, J_mul, J_neg, J_lt, J_le, J_eq, jT, jF, iT, iF, eT, eF, aT, aF, ite_true, ite_false, ite_not, bs]
                  · have rch := RMg.changes wfA.2.1 WQ RHg hk.1 hk.2 (i := w - 200) (by omega) (by omega)
                    rw [if_neg (by omega)] at rch
                    obtain ⟨y, pv, qv⟩ : ∃ y, m_X8_changeAt (x + 68) o1 (J k) (J (w - 200)) h1 = some (J y) ∧ m_X12_changes o (J k) (J (w - 200)) g = some (J y) := ⟨_, C1.changeAt D1 WQ M1s SC1 kq hk.1 kn (by omega) (by omega), rch⟩
                    refine out y (fa y ?_) (href y g ?_)
                    · simp (disch := omega) only [m_X11_foundAt, j_X11_foundAt_65, M1r, rc_ok M1s.1, pv, lm8, lm2, lm1, l0, l1, l2, l3, l4, l5, l6, l7, l8, l9, l10, l11, l12, l13, l14, l15, l16, l17, l18, l19, l20, l21, l22, l23, l24, l25, l27, l31, l32, l40, l46, l48, l50, l57, l59, l63, l86, l96, l97, l100, l110, l114, l122, l127, l200, l255, l300, l319, l320, l340, l441, l456, l580, l600, l800, l886, l1206, l1526, J_add, J_sub, J_mul, J_neg, J_lt, J_le, J_eq, jT, jF, iT, iF, eT, eF, aT, aF, ite_true, ite_false, ite_not, bs]
                    · simp (disch := omega) only [rc_ok RMg.tag, qv, j_X12_found_68, lm8, lm2, lm1, l0, l1, l2, l3, l4, l5, l6, l7, l8, l9, l10, l11, l12, l13, l14, l15, l16, l17, l18, l19, l20, l21, l22, l23, l24, l25, l27, l31, l32, l40, l46, l48, l50, l57, l59, l63, l86, l96, l97, l100, l110, l114, l122, l127, l200, l255, l300, l319, l320, l340, l441, l456, l580, l600, l800, l886, l1206, l1526, J_add, J_sub, J_mul, J_neg, J_lt, J_le, J_eq, jT, jF, iT, iF, eT, eF, aT, aF, ite_true, ite_false, ite_not, bs]
    · rw [and_no hk] at hh
      obtain ⟨g, e, F, R⟩ := M.lay a0 a1 q0 q1
      obtain ⟨RMg, RQg, RHg⟩ := R c
      have ia := RQg.isAsking k0 k1
      rw [decide_eq_false hk] at ia
      refine ⟨-1, h, g, ?_, ?_, F, FR.refl _ _⟩
      · rw [rc_ok G.tag, hh, bs]
        exact if_neg (fun q => q rfl)
      · unfold m_X12_found
        rw [e, c, if_neg (show ¬ (J (b01 true) : Int32) = 0 by decide), rc_ok RMg.tag, ia, bs]
        exact if_pos rfl
  · have c' : (ndB S 0 a && ndB S 1 q) = false := by simpa using c
    obtain ⟨g, e, F, R⟩ := M.lay a0 a1 q0 q1
    rw [if_neg c]
    refine ⟨-1, h, g, rfl, ?_, F, FR.refl _ _⟩
    unfold m_X12_found
    rw [e, c']
    exact if_pos rfl
end MQ5
