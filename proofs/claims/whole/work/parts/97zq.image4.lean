/-! PURE PART: image and again, the steps -/
section IV2
variable {h : Hp} {x o a L : Nat} {xs : Nat → Int32} {S S' : Sx}
/-- a State at a is ready to keep image j -/
def INVx (h : Hp) (x o L : Nat) (xs : Nat → Int32) (j a : Nat) (S : Sx) : Prop := SBo h x o S ∧ Rm h x o L xs ∧ TS9 (top h) a ∧ hR h (x + 42) j = a ∧ (o + 16 < a ∧ a + 40 < hTop h ∧ a < 999999) ∧ (∀ i : Nat, i < 3 → i ≠ j → Im1 h x o i) ∧ ∀ i k : Nat, i < 3 → k < 3 → i ≠ k → ImD h x i k
theorem SBo.im3 (M : SBo h x o S) {j : Nat} (hj : j < 3) : gfR h x 11 1 = some (x + 42) ∧ alen h (x + 42) 27 = some (J 3) ∧ alR h (x + 42) 27 (J (j : Int)) = some (hR h (x + 42) j) := by
  have := M.im (j := (j : Int)) (by omega) (by omega)
  rw [Int.toNat_natCast] at this
  exact this
theorem Im1.gw {g : Hp} {A B : Nat → Nat → Prop} {j : Nat} (I : Im1 h x o j) (G : GWH A B h g) (ho : o + 16 < hTop h) (xo : x + 42 < hTop h) (nA : ∀ b k, ¬ A b k) (nB : ∀ b k, (b ≠ x + 42 ∨ k = j) → ¬ B b k) (xo2 : x + 42 < o) : Im1 g x o j := by
  have rj : hR g (x + 42) j = hR h (x + 42) j := G.r xo (nB _ _ (Or.inr rfl))
  rcases I with ⟨i1, i2⟩ | ⟨S, ⟨i1, i2, i3, i4, i5, i6, i7⟩, i8⟩
  · rw [Int.toNat_natCast] at i1
    refine Or.inl ⟨by rw [Int.toNat_natCast, rj, i1], ?_⟩
    rw [← i2]
    unfold hE
    rw [G.i ho (nA _ _)]
  · refine Or.inr ⟨S, ⟨by rw [Int.toNat_natCast], ?_, ?_, ?_, ?_, ?_, i7⟩, ?_⟩
    · rw [← i2]
      unfold hE
      rw [G.i ho (nA _ _)]
    · rw [rj]
      exact i3
    · rw [rj]
      exact i4
    · rw [rj]
      exact i5.gw G i8 (fun b k _ _ => nA b k) (fun b k b0 _ => nB b k (by omega))
    · exact i6.gw G ho (fun b k _ _ => nA b k) (fun b k b0 _ => nB b k (by omega))
    · rw [rj]
      have := G.1
      omega
/-- the class finds or makes the State -/
theorem INV.ready (I : INV h x o L xs) {j : Nat} (hj : j < 3) : ∃ h' a S, m_X11_image x (J (j : Int)) h = j_X11_image_41 x a h' ∧ INVx h' x o L xs j a S := by
  obtain ⟨⟨S, M⟩, R, I1, I2⟩ := id I
  obtain ⟨r1, r2, r3⟩ := M.im3 hj
  have xo : x + 81 < o := M.2.2.2.2.1
  have rt := R.2.2.2.1
  have o2 := R.2.2.2.2.2
  have x1 := R.2.2.2.2.1
  rcases I1 j hj with ⟨i1, i2⟩ | ⟨S', ⟨i1, i2, i3, i4, i5, i6, i7⟩, i8⟩
  · rw [Int.toNat_natCast] at i1
    have t1 : hTag (alloc h 9 7) (hTop h) = 9 := by rw [hTag_alloc, up1_eq]
    have hb : hTop h ≤ o + 140 := by have := R.2.1; omega
    obtain ⟨g, e1, G, u1, u2, T9, -⟩ := X9_init_ok (h := alloc h 9 7) (a := hTop h) t1 rfl (by omega)
    have e0 : nw h 9 7 = some (alloc h 9 7) := if_pos (by omega)
    have G1 : GWH no2 no2 h g := ((GWH.alloc (t := 9) (n := 7)).trans G).mono (fun b _ q r => by omega) (fun b _ q r => by omega)
    have M1 : SBo g x o S := M.gw G1 (by omega) (fun b k q => q) (fun b k _ q => q)
    have q1 : gfR g x 11 1 = some (x + 42) := (M1.im3 hj).1
    have tg : hTag g (hTop h) = 9 := T9.1
    have as : asR g (x + 42) 27 (J (j : Int)) (hTop h) 9 = some (setR g (x + 42) j (hTop h)) := by
      unfold asR
      rw [if_pos ⟨M1.1.2.2.1.2.1, tg, by rw [show hLen g (x + 42) = 3 from M1.1.2.2.1.2.2]; exact inB_ok (by omega) (by omega) (by omega)⟩, J_nat (by omega) (by omega), Int.toNat_natCast]
    have G2 : GWH no2 (fun b k => b = x + 42 ∧ k = j) g (setR g (x + 42) j (hTop h)) := GWH.setR ⟨rfl, rfl⟩
    have GG : GWH no2 (fun b k => b = x + 42 ∧ k = j) h (setR g (x + 42) j (hTop h)) := (G1.mono (fun _ _ _ q => q) (fun _ _ _ q => q.elim)).trans G2
    have u1' : hTop (setR g (x + 42) j (hTop h)) = hTop h + 41 := u1
    have u2' : hUsed (setR g (x + 42) j (hTop h)) = hUsed h + 6003 := by
      show hUsed g = _
      rw [u2, hUsed_alloc]
    have hk : ∀ k, hR (setR g (x + 42) j (hTop h)) (x + 42) k = if k = j then hTop h else hR h (x + 42) k := fun k => by
      rw [hR_setR, up2_eq]
      by_cases c : k = j
      · rw [if_pos c]
        exact if_pos c
      · rw [if_neg c]
        show (if k = j then hTop h else hR g (x + 42) k) = _
        rw [if_neg c, G1.r (by omega) (fun q => q)]
    have T9' : TS9 (top (setR g (x + 42) j (hTop h))) (hTop h) := T9.loc (fun b q r => G2.E (by omega) (fun k n => by omega))
    have ev : m_X11_image x (J (j : Int)) h = j_X11_image_41 x (hTop h) (setR g (x + 42) j (hTop h)) := by
      unfold m_X11_image
      rw [if_neg (show ¬ J (j : Int) < 0 by rw [show (0 : Int32) = J 0 from rfl, J_lt (by omega) (by omega) (by omega) (by omega)]; omega), r1, bs, r2, bs, if_pos (show J (j : Int) < J 3 by rw [J_lt (by omega) (by omega) (by omega) (by omega)]; omega), bs, r3, bs, i1, nz_ok (by omega), bs, if_neg (by omega), e0, bs, rc_ok t1, e1, bs, q1, bs, as, bs]
    generalize setR g (x + 42) j (hTop h) = h' at *
    refine ⟨h', hTop h, S, ev, M.gw GG (by omega) (fun b k q => q) (fun b k c q => c q.1), ⟨⟨?_, ?_⟩, ?_, ?_, by omega, x1, o2⟩, T9', ?_, ⟨by omega, by omega, by omega⟩, fun i hi ne => (I1 i hi).gw GG (by omega) (by omega) (fun b k q => q) (fun b k c q => by omega) (by omega), fun i k hi hk2 ne => ?_⟩
    · rw [GG.len (by omega), R.1.1]
    · rw [← R.1.2]
      funext k
      exact GG.i (by omega) (fun q => q)
    · have fa : frn (hTop h) = 0 := if_neg (by omega)
      have f0 : frn (hR h (x + 42) j) = 1 := by rw [i1]; rfl
      have := R.2.1
      obtain rfl | rfl | rfl : j = 0 ∨ j = 1 ∨ j = 2 := by omega
      · rw [hk 0, hk 1, hk 2, if_pos rfl, if_neg (by decide), if_neg (by decide), fa]
        omega
      · rw [hk 0, hk 1, hk 2, if_neg (by decide), if_pos rfl, if_neg (by decide), fa]
        omega
      · rw [hk 0, hk 1, hk 2, if_neg (by decide), if_neg (by decide), if_pos rfl, fa]
        omega
    · have fa : frn (hTop h) = 0 := if_neg (by omega)
      have f0 : frn (hR h (x + 42) j) = 1 := by rw [i1]; rfl
      have := R.2.2.1
      obtain rfl | rfl | rfl : j = 0 ∨ j = 1 ∨ j = 2 := by omega
      · rw [hk 0, hk 1, hk 2, if_pos rfl, if_neg (by decide), if_neg (by decide), fa]
        omega
      · rw [hk 0, hk 1, hk 2, if_neg (by decide), if_pos rfl, if_neg (by decide), fa]
        omega
      · rw [hk 0, hk 1, hk 2, if_neg (by decide), if_neg (by decide), if_pos rfl, fa]
        omega
    · rw [hk, if_pos rfl]
    · have bd : ∀ m, m < 3 → m ≠ j → hR h (x + 42) m ≠ 0 → hR h (x + 42) m + 40 < hTop h := fun m hm nm nz => by
        rcases I1 m hm with ⟨w1, -⟩ | ⟨-, -, w8⟩
        · rw [Int.toNat_natCast] at w1
          exact absurd w1 nz
        · exact w8
      unfold ImD
      rw [hk, hk]
      by_cases c1 : i = j
      · rw [if_pos c1, if_neg (by omega)]
        intro _ n2
        exact Or.inr (bd k hk2 (by omega) n2)
      · rw [if_neg c1]
        by_cases c2 : k = j
        · rw [if_pos c2]
          intro n1 _
          exact Or.inl (bd i hi c1 n1)
        · rw [if_neg c2]
          exact I2 i k hi hk2 ne
  · refine ⟨h, hR h (x + 42) j, S, ?_, M, R, i5.1, rfl, ⟨i3, i8, i4⟩, fun i hi _ => I1 i hi, I2⟩
    unfold m_X11_image
    rw [if_neg (show ¬ J (j : Int) < 0 by rw [show (0 : Int32) = J 0 from rfl, J_lt (by omega) (by omega) (by omega) (by omega)]; omega), r1, bs, r2, bs, if_pos (show J (j : Int) < J 3 by rw [J_lt (by omega) (by omega) (by omega) (by omega)]; omega), bs, r3, bs, nz_ok i4, bs, if_pos (by omega)]
theorem INVx.run {j : Nat} (hj : j < 3) (I : INVx h x o L xs j a S) : ∃ h1 h2, j_X11_image_41 x a h = some (J 1, h1) ∧ m_X12_image o (J (j : Int)) h1 = some (J 1, h2) ∧ INV h2 x o L xs ∧ hTag h1 o = 12 ∧ hLen h1 1 = L ∧ hI h1 1 = xs := by
  obtain ⟨M, R, T9, ra, ⟨a1, a2, a3⟩, I1, I2⟩ := I
  obtain ⟨m1, m2, m3, m4, m5, m6⟩ := id M
  have xo : x + 81 < o := m5
  have x1 := R.2.2.2.2.1
  obtain ⟨h1, e1, F1, C1⟩ := m2.copyFrom (d := a) T9 (by omega)
  have R1 := m3.frame F1 (fun b k b0 b1 q => by omega)
  have p0 : pfI h1 o 12 0 (0 : Int32) = some (wE h1 o 0 0) := pfI_ok (k := 0) (z := 0) R1.1.tag
  have F0 : FR (fun b k => b = o) h1 (wE h1 o 0 0) := FR.wE (A := fun b k => b = o) rfl
  generalize wE h1 o 0 0 = h0 at *
  have R0 := R1.frame F0 (fun b k b0 b1 q => by omega)
  obtain ⟨g, e2, F2, R2⟩ := R0.copyAll (q := (j : Int) + 1) m4.1 (by omega) (by omega) (by omega) (by omega) (by omega) (fun k k0 k1 => (m4.2.2.1 k k0 k1).2)
  have ei : m_X12_in (J (j : Int)) (J 0) (J 2) h0 = some (J 1) := X12_in_T (by omega) (by omega) (by omega)
  have az : asZ g (o + 16) (J (j : Int)) (J 1) = some (wE g (o + 16) j 1) := by
    unfold asZ
    rw [if_pos ⟨R2.1.a36.1, by rw [show hLen g (o + 16) = 3 from R2.1.a36.2]; exact inB_ok (by omega) (by omega) (by omega)⟩, J_nat (by omega) (by omega)]
    rfl
  have F3 : FR (fun b k => b = o + 16 ∧ k = j) g (wE g (o + 16) j 1) := FR.wE (A := fun b k => b = o + 16 ∧ k = j) ⟨rfl, by omega⟩
  have s1 : hE (wE g (o + 16) j 1) (o + 16) j = 1 := by rw [hE_wE (by omega) (by omega) (by omega) (by omega), if_pos ⟨rfl, rfl⟩]
  have eR : m_X12_image o (J (j : Int)) h1 = some (J 1, wE g (o + 16) j 1) := by
    unfold m_X12_image
    have e2' : m_X12_copyAll o (0 : Int32) (J (j : Int) + (1 : Int32)) h0 = some g := by
      rw [show (1 : Int32) = J 1 from rfl, J_add]
      exact e2
    have ei' : m_X12_in (J (j : Int)) (0 : Int32) (2 : Int32) h0 = some (J 1) := ei
    rw [p0, bs, ei', bs, if_pos (show ¬ J 1 = 0 by decide), rc_ok R0.1.tag, e2', bs, R2.1.r36, bs]
    show (asZ g (o + 16) (J (j : Int)) (J 1)).bind _ = _
    rw [az, bs]
    rfl
  generalize wE g (o + 16) j 1 = h2 at *
  have FF : FR (fun b k => (a ≤ b ∧ b ≤ a + 40) ∨ b = o ∨ AIm o ((j : Int) + 1) b k ∨ (b = o + 16 ∧ k = j)) h h2 := (((F1.mono (fun b k q => Or.inl q)).trans (F0.mono (fun b k q => Or.inr (Or.inl q)))).trans (F2.mono (fun b k q => Or.inr (Or.inr (Or.inl q))))).trans (F3.mono (fun b k q => Or.inr (Or.inr (Or.inr q))))
  have M2 : SBo h2 x o S := by
    refine ⟨by rw [FF.1]; exact m1, m2.frame FF (fun b k b0 b1 q => ?_), m3.frameJ m4 (by omega) FF (fun b k q r => ?_), m4, m5, m6⟩
    · exfalso
      unfold AIm at q
      omega
    · unfold AIm at q r
      omega
  have Cj : CS h2 a S := ((C1.frame F0 (fun b k b0 b1 q => by omega)).frame F2 (fun b k b0 b1 q => by unfold AIm at q; omega)).frame F3 (fun b k b0 b1 q => by omega)
  have Rj : RS h2 o ((j : Int) + 1) S := R2.frame F3 (fun b k b0 b1 q => by omega)
  have RF1 := R.frame F1 (fun k q => by omega)
  refine ⟨h1, h2, ?_, eR, ⟨⟨S, M2⟩, R.frame FF (fun k q => by unfold AIm at q; omega), fun i hi => ?_, fun i k hi hk ne => ?_⟩, R1.1.tag, RF1.1⟩
  · unfold j_X11_image_41
    rw [M.r0, bs, rc_ok T9.1, e1, bs]
    rfl
  · by_cases c : i = j
    · subst c
      refine Or.inr ⟨S, ⟨by rw [Int.toNat_natCast], s1, ?_, ?_, ?_, Rj, m4⟩, ?_⟩
      · rw [FF.ref, ra]
        exact a1
      · rw [FF.ref, ra]
        exact a3
      · rw [FF.ref, ra]
        exact Cj
      · rw [FF.ref, ra, FF.2.1]
        exact a2
    · refine (I1 i hi c).frame FF (fun q => ?_) (fun nz b k b0 b1 q => ?_) (fun b k q r => ?_)
      · unfold AIm at q
        omega
      · have w3 : o + 16 < hR h (x + 42) i := by
          rcases I1 i hi c with ⟨i1, -⟩ | ⟨S, ⟨-, -, i3, -⟩, -⟩
          · rw [Int.toNat_natCast] at i1
            exact absurd i1 nz
          · exact i3
        have w4 := I2 i j hi hj c nz (by omega)
        unfold AIm at q
        omega
      · unfold AIm at q r
        omega
  · unfold ImD
    rw [FF.ref, FF.ref]
    exact I2 i k hi hk ne
theorem INV.image (I : INV h x o L xs) {j : Nat} (hj : j < 3) : ∃ h1 h2, m_X11_image x (J (j : Int)) h = some (J 1, h1) ∧ m_X12_image o (J (j : Int)) h1 = some (J 1, h2) ∧ INV h2 x o L xs ∧ hTag h1 o = 12 ∧ hLen h1 1 = L ∧ hI h1 1 = xs := by
  obtain ⟨h', a, S, e, X⟩ := I.ready hj
  obtain ⟨h1, h2, e1, e2, I2⟩ := X.run hj
  exact ⟨h1, h2, e.trans e1, e2, I2⟩
theorem INV.again (I : INV h x o L xs) {j : Nat} (hj : j < 3) : ∃ v h1 h2, m_X11_again x (J (j : Int)) h = some (J v, h1) ∧ m_X12_again o (J (j : Int)) h1 = some (J v, h2) ∧ INV h2 x o L xs ∧ hTag h1 o = 12 ∧ hLen h1 1 = L ∧ hI h1 1 = xs := by
  obtain ⟨⟨S, M⟩, R, I1, I2⟩ := id I
  rcases I1 j hj with ⟨i1, i2⟩ | ⟨S', IS, -⟩
  · obtain ⟨r1, r2, r3⟩ := M.im3 hj
    rw [Int.toNat_natCast] at i1
    rw [i1] at r3
    obtain ⟨p0, F0, M0⟩ := M.code
    have p0' : pfI h o 12 0 (0 : Int32) = some (wE h o 0 0) := p0
    generalize wE h o 0 0 = g at *
    have T0 := M0.2.2.1.1
    have az : alZ g (o + 16) (J (j : Int)) = some (J 0) := by rw [alZ_ok T0.a36 (by omega) (by omega) (by omega), F0.e (by omega), i2]
    have ei : m_X12_in (J (j : Int)) (J 0) (J 2) g = some (J 1) := X12_in_T (by omega) (by omega) (by omega)
    have nzz : nz 0 = some 0 := nz_ok (by omega)
    refine ⟨0, h, g, ?_, ?_, I.step (F0.mono (fun b k q => by unfold St A0; omega)) M0, M.2.2.1.1.tag, R.1⟩
    · unfold m_X11_again
      simp (disch := omega) only [r1, r2, r3, nzz, lm8, lm2, lm1, l0, l1, l2, l3, l4, l5, l6, l7, l8, l9, l10, l11, l12, l13, l14, l15, l16, l17, l18, l19, l20, l21, l22, l23, l24, l25, l27, l31, l32, l40, l46, l48, l50, l57, l59, l63, l86, l96, l97, l100, l110, l114, l122, l127, l200, l255, l300, l319, l320, l340, l441, l456, l580, l600, l800, l886, l1206, l1526, J_add, J_sub, J_mul, J_neg, J_lt, J_le, J_eq, jT, jF, iT, iF, eT, eF, aT, aF, ite_true, ite_false, ite_not, bs]
    · unfold m_X12_again
      rw [p0']
      simp (disch := omega) only [ei, T0.r36, az, lm8, lm2, lm1, l0, l1, l2, l3, l4, l5, l6, l7, l8, l9, l10, l11, l12, l13, l14, l15, l16, l17, l18, l19, l20, l21, l22, l23, l24, l25, l27, l31, l32, l40, l46, l48, l50, l57, l59, l63, l86, l96, l97, l100, l110, l114, l122, l127, l200, l255, l300, l319, l320, l340, l441, l456, l580, l600, l800, l886, l1206, l1526, J_add, J_sub, J_mul, J_neg, J_lt, J_le, J_eq, jT, jF, iT, iF, eT, eF, aT, aF, ite_true, ite_false, ite_not, bs]
  · obtain ⟨h1, h2, e1, e2, F, M2, F1⟩ := M.againS (j := (j : Int)) (by omega) (by omega) IS
    have x1 := R.2.2.2.2.1
    have RF1 := R.frame F1 (fun k q => by unfold St A0 at q; have := M.2.2.2.2.1; omega)
    exact ⟨1, h1, h2, e1, e2, I.step F M2, by rw [F1.tag]; exact M.2.2.1.1.tag, RF1.1⟩
end IV2
