/-! PURE PART: images kept and taken again, all of them; what holds between calls -/
def mixH (h g : Hp) : Hp := (h.1, h.2.1, h.2.2.1, h.2.2.2.1, g.2.2.2.2.1, g.2.2.2.2.2.1, h.2.2.2.2.2.2)
section GWS
variable {h g : Hp} {x o a : Nat} {S S' : Sx} {j : Int} {A B : Nat → Nat → Prop}
theorem CS.gw (C : CS h a S) (G : GWH A B h g) (ha : a + 40 < hTop h) (nA : ∀ b k, a ≤ b → b ≤ a + 40 → ¬ A b k) (nB : ∀ b k, a ≤ b → b ≤ a + 40 → ¬ B b k) : CS g a S := by
  have F : FR (fun b _ => b < a ∨ a + 40 < b) h (mixH h g) := ⟨rfl, rfl, rfl, fun b k n => ((G.2 b (by omega)).2.2 k).1 (nA b k (by omega) (by omega))⟩
  have C' := C.frame F (fun b k b0 b1 q => by omega)
  obtain ⟨c1, ⟨c2, c2'⟩, c3, c4, c5, c6⟩ := C'
  have T : TS9 (top g) a := C.1.loc (fun b q r => G.E (by omega) (fun k => nB b k q r))
  refine ⟨T, ⟨T.2.1.2, c2'⟩, c3, c4, c5, fun i hi => ⟨fun q => ?_, fun q => ?_, fun q => ?_⟩⟩
  · obtain ⟨⟨a1, a1'⟩, a2, a3⟩ := (c6 i hi).1 q
    exact ⟨⟨(T.2.2.2.2.2.2 i hi).1.2, a1'⟩, a2, a3⟩
  · obtain ⟨b1, b2⟩ := (c6 i hi).2.1 q
    exact ⟨(T.2.2.2.2.2.2 i hi).2.1.2, b2⟩
  · obtain ⟨b1, b2⟩ := (c6 i hi).2.2 q
    exact ⟨(T.2.2.2.2.2.2 i hi).2.2.2, b2⟩
theorem RS.gw (C : RS h o j S) (G : GWH A B h g) (ho : o + 16 < hTop h) (nA : ∀ b k, o ≤ b → b ≤ o + 16 → ¬ A b k) (nB : ∀ b k, o ≤ b → b ≤ o + 16 → ¬ B b k) : RS g o j S := by
  have F : FR (fun b _ => b < o ∨ o + 16 < b) h (mixH h g) := ⟨rfl, rfl, rfl, fun b k n => ((G.2 b (by omega)).2.2 k).1 (nA b k (by omega) (by omega))⟩
  have C' := C.frame F (fun b k b0 b1 q => by omega)
  exact ⟨C.1.loc (fun b q r => G.E (by omega) (fun k => nB b k q r)), C'.2⟩
/-- image j of the reference stays where its own cells do -/
theorem RS.frameJ {h' : Hp} (C : RS h o j S) (W : SW S) (j0 : 0 ≤ j) (F : FR A h h') (n : ∀ b k, AIm o j b k → ¬ A b k) : RS h' o j S := by
  obtain ⟨c1, c2, c3, c4, c5, c6, c7, c8, c9⟩ := C
  refine ⟨by rw [F.1]; exact c1, fun k k0 k1 => ?_, ?_, ?_, ?_, fun k k0 k1 => ?_, fun i i0 i1 q c d0 d1 => ?_, fun i i0 i1 q c d0 d1 => ?_, fun i i0 i1 q c d0 d1 => ?_⟩
  · rw [F.e (n _ _ (by unfold AIm; omega)), c2 k k0 k1]
  · rw [F.e (n _ _ (by unfold AIm; omega)), c3]
  · rw [F.e (n _ _ (by unfold AIm; omega)), c4]
  · rw [F.e (n _ _ (by unfold AIm; omega)), c5]
  · rw [F.e (n _ _ (by unfold AIm; omega)), c6 k k0 k1]
  · rw [F.e (n _ _ (by unfold AIm; omega)), c7 i i0 i1 q c d0 d1]
  · rw [F.e (n _ _ (by unfold AIm; omega)), c8 i i0 i1 q c d0 d1]
  · rw [F.e (n _ _ (by unfold AIm; omega)), c9 i i0 i1 q c d0 d1]
theorem SBo.gw (M : SBo h x o S) (G : GWH A B h g) (ho : o + 16 < hTop h) (nA : ∀ b k, ¬ A b k) (nB : ∀ b k, b ≠ x + 42 → ¬ B b k) : SBo g x o S := by
  obtain ⟨m1, m2, m3, m4, m5, m6⟩ := M
  have E : ∀ b, x ≤ b → b ≤ x + 81 → (top g).1 b = (top h).1 b ∧ (top g).2.1 b = (top h).2.1 b ∧ (b ≠ x + 42 → (top g).2.2 b = (top h).2.2 b) := fun b q r => by
    have lb : b < hTop h := by omega
    exact ⟨G.tag lb, G.len lb, fun ne => funext (fun k => G.r lb (nB b k ne))⟩
  exact ⟨m1.loc E, m2.gw G (by omega) (fun b k _ _ => nA b k) (fun b k _ _ => nB b k (by omega)), m3.gw G ho (fun b k _ _ => nA b k) (fun b k _ _ => nB b k (by omega)), m4, m5, m6⟩
end GWS
def frn (n : Nat) : Nat := if n = 0 then 1 else 0
/-- an image of both sides: none, or one that shows the same -/
def Im1 (h : Hp) (x o : Nat) (j : Nat) : Prop := ImO h x o j ∨ ∃ S, ImS h x o j (hR h (x + 42) j) S ∧ hR h (x + 42) j + 40 < hTop h
def ImD (h : Hp) (x i j : Nat) : Prop := hR h (x + 42) i ≠ 0 → hR h (x + 42) j ≠ 0 → hR h (x + 42) i + 40 < hR h (x + 42) j ∨ hR h (x + 42) j + 40 < hR h (x + 42) i
/-- how much room is left, the script's cells -/
def Rm (h : Hp) (x o L : Nat) (xs : Nat → Int32) : Prop := (hLen h 1 = L ∧ hI h 1 = xs) ∧ hTop h + 41 * (frn (hR h (x + 42) 0) + frn (hR h (x + 42) 1) + frn (hR h (x + 42) 2)) ≤ o + 140 ∧ hUsed h + 6003 * (frn (hR h (x + 42) 0) + frn (hR h (x + 42) 1) + frn (hR h (x + 42) 2)) ≤ 60000 ∧ o + 17 ≤ hTop h ∧ 1 < x ∧ o < 2000
/-- what holds between calls -/
def INV (h : Hp) (x o L : Nat) (xs : Nat → Int32) : Prop := (∃ S, SBo h x o S) ∧ Rm h x o L xs ∧ (∀ j : Nat, j < 3 → Im1 h x o j) ∧ ∀ i j : Nat, i < 3 → j < 3 → i ≠ j → ImD h x i j
section IV
variable {h : Hp} {x o a L : Nat} {xs : Nat → Int32} {S S' : Sx}
theorem FR.len {A : Nat → Nat → Prop} {h' : Hp} (F : FR A h h') (b : Nat) : hLen h' b = hLen h b := congrFun (congrArg (fun t : Tp => t.2.1) F.1) b
theorem FR.ref {A : Nat → Nat → Prop} {h' : Hp} (F : FR A h h') (b k : Nat) : hR h' b k = hR h b k := congrFun (congrFun (congrArg (fun t : Tp => t.2.2) F.1) b) k
theorem Rm.frame {A : Nat → Nat → Prop} {h' : Hp} (R : Rm h x o L xs) (F : FR A h h') (n : ∀ k, ¬ A 1 k) : Rm h' x o L xs := by
  obtain ⟨⟨r1, r2⟩, r3, r4, r5, r6⟩ := R
  refine ⟨⟨by rw [F.len, r1], ?_⟩, ?_, ?_, ?_, r6⟩
  · rw [← r2]
    funext k
    exact (F.2.2.2 1 k (n k)).1
  · rw [F.2.1, F.ref, F.ref, F.ref]
    exact r3
  · rw [F.2.2.1, F.ref, F.ref, F.ref]
    exact r4
  · rw [F.2.1]
    exact r5
theorem Im1.frame {A : Nat → Nat → Prop} {h' : Hp} {j : Nat} (I : Im1 h x o j) (F : FR A h h') (n16 : ¬ A (o + 16) j) (na : hR h (x + 42) j ≠ 0 → ∀ b k, hR h (x + 42) j ≤ b → b ≤ hR h (x + 42) j + 40 → ¬ A b k) (nj : ∀ b k, AIm o ((j : Int) + 1) b k → ¬ A b k) : Im1 h' x o j := by
  rcases I with ⟨i1, i2⟩ | ⟨S, ⟨i1, i2, i3, i4, i5, i6, i7⟩, i8⟩
  · refine Or.inl ⟨by rw [F.ref, i1], ?_⟩
    rw [F.e (by rw [Int.toNat_natCast]; exact n16), i2]
  · refine Or.inr ⟨S, ⟨by rw [F.ref, F.ref, i1], ?_, ?_, ?_, ?_, ?_, i7⟩, ?_⟩
    · rw [F.e (by rw [Int.toNat_natCast]; exact n16), i2]
    · rw [F.ref]
      exact i3
    · rw [F.ref]
      exact i4
    · rw [F.ref]
      exact i5.frame F (fun b k b0 b1 q => absurd q (na (by omega) b k b0 b1))
    · exact i6.frameJ i7 (by omega) F nj
    · rw [F.ref, F.2.1]
      exact i8
/-- a step of the usual kind keeps what holds -/
theorem INV.step {h' : Hp} (I : INV h x o L xs) (F : FR (St x o) h h') (M : SBo h' x o S') : INV h' x o L xs := by
  obtain ⟨⟨S, M0⟩, R, I1, I2⟩ := I
  have hx : 1 < x := R.2.2.2.2.1
  have xo : x + 81 < o := M0.2.2.2.2.1
  refine ⟨⟨S', M⟩, R.frame F (fun k q => by unfold St A0 at q; omega), fun j hj => (I1 j hj).frame F (fun q => by unfold St A0 at q; omega) (fun ne b k b0 b1 q => ?_) (fun b k q r => by unfold AIm at q; unfold St A0 at r; omega), fun i j hi hj ne => ?_⟩
  · have : o + 16 < hR h (x + 42) j := by
      rcases I1 j hj with ⟨i1, -⟩ | ⟨S, ⟨-, -, i3, -⟩, -⟩
      · rw [Int.toNat_natCast] at i1
        exact absurd i1 ne
      · exact i3
    unfold St A0 at q
    omega
  · unfold ImD
    rw [F.ref, F.ref]
    exact I2 i j hi hj ne
/-- no image is taken or kept: a word out of range -/
theorem SBo.imageNo (M : SBo h x o S) {j : Int} (a0 : -2147483648 ≤ j) (a1 : j < 2147483648) (c : j < 0 ∨ 3 ≤ j) : (∃ h2, m_X11_image x (J j) h = some (J 0, h) ∧ m_X12_image o (J j) h = some (J 0, h2) ∧ FR (St x o) h h2 ∧ SBo h2 x o S) ∧ ∃ h2, m_X11_again x (J j) h = some (J 0, h) ∧ m_X12_again o (J j) h = some (J 0, h2) ∧ FR (St x o) h h2 ∧ SBo h2 x o S := by
  obtain ⟨p0, F0, M0⟩ := M.code
  have p0' : pfI h o 12 0 (0 : Int32) = some (wE h o 0 0) := p0
  generalize wE h o 0 0 = g at *
  have ei : m_X12_in (J j) (J 0) (J 2) g = some (J 0) := X12_in_F (by omega) (by omega) (by omega) (by omega)
  have F0' : FR (St x o) h g := F0.mono (fun b k q => by unfold St A0; omega)
  have r1 : gfR h x 11 1 = some (x + 42) := gfR_ok M.1.1 M.1.2.2.1.1
  have r2 : alen h (x + 42) 27 = some (J 3) := by
    unfold alen
    rw [if_pos (show hTag h (x + 42) = 27 from M.1.2.2.1.2.1), show hLen h (x + 42) = 3 from M.1.2.2.1.2.2]
    rfl
  have ii : m_X12_image o (J j) h = some (J 0, g) := by
    unfold m_X12_image
    rw [p0', bs, show (0 : Int32) = J 0 from rfl, show (2 : Int32) = J 2 from rfl, ei, bs, if_neg (fun q => q rfl)]
  have ia : m_X12_again o (J j) h = some (J 0, g) := by
    unfold m_X12_again
    rw [p0', bs, show (0 : Int32) = J 0 from rfl, show (2 : Int32) = J 2 from rfl, ei, bs, if_pos rfl]
  refine ⟨⟨g, ?_, ii, F0', M0⟩, g, ?_, ia, F0', M0⟩
  · unfold m_X11_image
    by_cases c1 : j < 0
    · simp (disch := omega) only [lm8, lm2, lm1, l0, l1, l2, l3, l4, l5, l6, l7, l8, l9, l10, l11, l12, l13, l14, l15, l16, l17, l18, l19, l20, l21, l22, l23, l24, l25, l27, l31, l32, l40, l46, l48, l50, l57, l59, l63, l86, l96, l97, l100, l110, l114, l122, l127, l200, l255, l300, l319, l320, l340, l441, l456, l580, l600, l800, l886, l1206, l1526, J_add, J_sub, J_mul, J_neg, J_lt, J_le, J_eq, jT, jF, iT, iF, eT, eF, aT, aF, ite_true, ite_false, ite_not, bs]
    · simp (disch := omega) only [r1, r2, lm8, lm2, lm1, l0, l1, l2, l3, l4, l5, l6, l7, l8, l9, l10, l11, l12, l13, l14, l15, l16, l17, l18, l19, l20, l21, l22, l23, l24, l25, l27, l31, l32, l40, l46, l48, l50, l57, l59, l63, l86, l96, l97, l100, l110, l114, l122, l127, l200, l255, l300, l319, l320, l340, l441, l456, l580, l600, l800, l886, l1206, l1526, J_add, J_sub, J_mul, J_neg, J_lt, J_le, J_eq, jT, jF, iT, iF, eT, eF, aT, aF, ite_true, ite_false, ite_not, bs]
  · unfold m_X11_again
    by_cases c1 : j < 0
    · simp (disch := omega) only [lm8, lm2, lm1, l0, l1, l2, l3, l4, l5, l6, l7, l8, l9, l10, l11, l12, l13, l14, l15, l16, l17, l18, l19, l20, l21, l22, l23, l24, l25, l27, l31, l32, l40, l46, l48, l50, l57, l59, l63, l86, l96, l97, l100, l110, l114, l122, l127, l200, l255, l300, l319, l320, l340, l441, l456, l580, l600, l800, l886, l1206, l1526, J_add, J_sub, J_mul, J_neg, J_lt, J_le, J_eq, jT, jF, iT, iF, eT, eF, aT, aF, ite_true, ite_false, ite_not, bs]
    · simp (disch := omega) only [r1, r2, lm8, lm2, lm1, l0, l1, l2, l3, l4, l5, l6, l7, l8, l9, l10, l11, l12, l13, l14, l15, l16, l17, l18, l19, l20, l21, l22, l23, l24, l25, l27, l31, l32, l40, l46, l48, l50, l57, l59, l63, l86, l96, l97, l100, l110, l114, l122, l127, l200, l255, l300, l319, l320, l340, l441, l456, l580, l600, l800, l886, l1206, l1526, J_add, J_sub, J_mul, J_neg, J_lt, J_le, J_eq, jT, jF, iT, iF, eT, eF, aT, aF, ite_true, ite_false, ite_not, bs]
end IV
