/-! PURE PART: the reference's lines one behind the other -/
def EB (f le e : Int) : Prop := e = 9999 ∨ (8 * f ≤ e ∧ e < 8 * le + 8)
section EBs
variable {B : Int → Int} {L f k own le : Int}
theorem EB_min {a b : Int} (h : le ≤ 600) (x : EB f le a) (y : EB f le b) : EB f le (min a b) := by
  unfold EB at *
  omega
theorem EB_9 : EB f le 9999 := Or.inl rfl
theorem EB_p {p c : Int} (h0 : f ≤ p) (h1 : p ≤ le) (c0 : 0 ≤ c) (c1 : c < 8) : EB f le (8 * p + c) := Or.inr (by omega)
theorem EB_n (W : LnW B L f k) (hle : le = tkI B L f (1 + shL k + exF B L f k)) (l6 : le ≤ 600) : EB f le (e2n B L f k own) := by
  have kr := kk_rg k
  have ex := ex_spec (B := B) (k := k) W.1.2.2 W.1.1 W.1.2.1
  have one : ∀ j : Int, 0 ≤ j → j < nCk k → EB f le (bnE B L f k own j) := fun j j0 j1 => by
    unfold bnE
    have n := W.num j0 j1
    have t : vpF B L f k j ≤ le := by
      rw [hle]
      exact tk_le W.1.2.1 (by omega) (by omega)
    split
    · exact EB_p n.1.1 t (by omega) (by omega)
    · exact EB_9
  have all : ∀ n : Nat, (n : Int) ≤ nCk k → EB f le (bnU B L f k own n) := fun n => by
    induction n with
    | zero => exact fun _ => EB_9
    | succ n ih => exact fun hn => EB_min l6 (ih (by omega)) (one n (by omega) (by omega))
  exact all _ (by omega)
theorem EB_w (W : LnW B L f k) (hle : le = tkI B L f (1 + shL k + exF B L f k)) {j : Int} (j0 : 0 ≤ j) (j1 : j < nwF B L f k) : f ≤ wpF B L f k j ∧ wpF B L f k j ≤ le := by
  have kr := kk_rg k
  have ex := ex_spec (B := B) (k := k) W.1.2.2 W.1.1 W.1.2.1
  have w := W.wrd j0 j1
  refine ⟨w.2.1, ?_⟩
  rw [hle]
  have nd : nwF B L f k = wCk k + exF B L f k := rfl
  have o2 : wOk k + nwF B L f k ≤ shL k + exF B L f k := by
    by_cases cm : moK k = true
    · have := mo_shL cm
      omega
    · have x0 := ex.2.2.2.2 cm
      have : wOk k = 0 := by
        unfold wOk
        rw [if_neg (fun q => cm (by unfold moK; exact decide_eq_true (Or.inr (Or.inr q))))]
      omega
  exact tk_le W.1.2.1 (by omega) (by omega)
theorem EB_2w (W : LnW B L f k) (hle : le = tkI B L f (1 + shL k + exF B L f k)) : EB f le (e2w B L f k) := by
  unfold e2w msF
  rcases fiZ_spec (nwF B L f k) (lgB B L f k) with ⟨e1, e2⟩ | ⟨e1, e2, e3, e4⟩
  · rw [if_pos e1, if_pos rfl]
    exact EB_9
  · have e5 : (if fiZ (nwF B L f k) (lgB B L f k) = -1 then -1 else wpF B L f k (fiZ (nwF B L f k) (lgB B L f k))) = wpF B L f k (fiZ (nwF B L f k) (lgB B L f k)) := if_neg (by omega)
    have w := EB_w W hle e1 e2
    have f0 := W.1.1
    rw [e5, if_neg (by omega)]
    exact EB_p w.1 w.2 (by omega) (by omega)
theorem EB_3w (W : LnW B L f k) (hle : le = tkI B L f (1 + shL k + exF B L f k)) {m : Int} (m0 : 0 ≤ m) : EB f le (e3w B L f k m) := by
  unfold e3w
  split
  · have w := EB_w W hle m0 (by assumption)
    exact EB_p w.1 w.2 (by omega) (by omega)
  · exact EB_9
theorem EB_le (W : LnW B L f k) (hle : le = tkI B L f (1 + shL k + exF B L f k)) : f ≤ le ∧ le ≤ 600 := by
  have kr := kk_rg k
  have ex := ex_spec (B := B) (k := k) W.1.2.2 W.1.1 W.1.2.1
  have t := tk_rg (B := B) (i := 1 + shL k + exF B L f k) W.1.2.1 (by omega)
  have := W.1.2.2
  omega
theorem EB_A {T : Int → Int} (W : LnW B L f k) (A : AW T) (hle : le = tkI B L f (1 + shL k + exF B L f k)) : EB f le (elA B L T f k) := by
  have l := EB_le W hle
  have kr := kk_rg k
  have p3 : EB f le (8 * f + 3) := EB_p (Int.le_refl f) l.1 (by omega) (by omega)
  have p4 : EB f le (8 * f + 4) := EB_p (Int.le_refl f) l.1 (by omega) (by omega)
  refine EB_min l.2 (EB_min l.2 (EB_n W hle l.2) (EB_2w W hle)) (EB_min l.2 ?_ ?_)
  · unfold eFA
    split
    · split
      · exact p3
      · exact EB_9
    · split
      · unfold ftE
        repeat' split
        · exact p3
        · exact EB_9
        · exact p4
        · exact p4
      · exact EB_9
  · unfold eWA
    split
    · exact EB_3w W hle (by omega)
    · split
      · have nk : 0 < nCk k := by
          unfold nCk
          rw [if_neg (by omega), if_neg (by omega), if_neg (by omega), if_neg (by omega), if_pos (by assumption)]
          omega
        have n0 := (W.num (j := 0) (by omega) nk).2
        have ll := ll_rg A (d := viF B L f k 0) n0.1
        exact EB_3w W hle (by omega)
      · exact EB_9
theorem EB_Q (W : LnW B L f k) (hle : le = tkI B L f (1 + shL k + exF B L f k)) : EB f le (elQo B L own f k) := by
  have l := EB_le W hle
  have p3 : EB f le (8 * f + 3) := EB_p (Int.le_refl f) l.1 (by omega) (by omega)
  refine EB_min l.2 (EB_min l.2 (EB_n W hle l.2) (EB_2w W hle)) (EB_min l.2 ?_ ?_)
  · split
    · exact p3
    · exact EB_9
  · split
    · exact EB_3w W hle (by omega)
    · exact EB_9
theorem EB_U (W : LnW B L f k) (hle : le = tkI B L f (1 + shL k + exF B L f k)) : EB f le (elUo B L own f k) := by
  have l := EB_le W hle
  have p3 : EB f le (8 * f + 3) := EB_p (Int.le_refl f) l.1 (by omega) (by omega)
  refine EB_min l.2 (EB_min l.2 (EB_n W hle l.2) (EB_2w W hle)) ?_
  split
  · exact p3
  · exact EB_9
end EBs
def Alf (o b k : Nat) : Prop := Arl o b k ∨ (b = o ∧ k = 23)
def lnFn (s : Int) (o : Nat) (w : Int64) (f : Int32) (g : Hp) : Option (Int32 × Hp) := if s = 0 then m_X12_archiveLine o w f g else if s = 1 then m_X12_askingLine o w f g else m_X12_huntLine o w f g
section LLo
variable {h : Hp} {o : Nat} {B : Int → Int} {L s : Int} {el : (Int → Int) → Int → Int → Int} {stp : (Int → Int) → Int → Int → Int → Int → Int}
theorem RP.alf {h' : Hp} (H : RP h o B L) (F : FR (Alf o) h h') : RP h' o B L := by
  refine H.frame F ?_ (fun k => ?_) <;> · unfold Alf Arl Ard; omega
theorem linesLoop (D : Hp → Int → (Int → Int) → Prop) (hD : ∀ A g g' E T, D g E T → FR A g g' → (∀ k, ¬ A (o + 9) k) → D g' E T) (H : RP h o B L) (s0 : 0 ≤ s) (s1 : s ≤ 2) (K : RK h o B L (lsI B L s 0)) (e : ENr h o 9999) (d : D h 9999 (fun _ => 0))
    (hline : ∀ (g : Hp) (n : Nat), (n : Int) ≤ nlF B L s → lsN B L s n < L → RP g o B L → RK g o B L (lsN B L s n) → ENr g o (tyN el stp B L s n).1 → D g (tyN el stp B L s n).1 (tyN el stp B L s n).2 → hE g o 22 = 1 → hE g o 21 = 0 → hE g o 23 = (n : Int) → ∃ x g', lnFn s o (ltF B L (lsN B L s n)) (J (lsN B L s n)) g = some (J x, g') ∧ RXx g g' o B L s (lsN B L s n) x (fun _ g' => ENr g' o (tyN el stp B L s (n + 1)).1 ∧ D g' (tyN el stp B L s (n + 1)).1 (tyN el stp B L s (n + 1)).2)) :
    ∃ h', m_X12_allLines o (J s) h = some (J (if loF B L s (lsI B L s (nlF B L s)) = 1 then 0 else 1), h') ∧ FR (Alf o) h h' ∧ (loF B L s (lsI B L s (nlF B L s)) = 1 → hE h' o 15 = leF B L s (lsI B L s (nlF B L s))) ∧ (loF B L s (lsI B L s (nlF B L s)) ≠ 1 → ENr h' o (tyN el stp B L s (nlF B L s).toNat).1 ∧ D h' (tyN el stp B L s (nlF B L s).toNat).1 (tyN el stp B L s (nlF B L s).toNat).2) := by
  have hL := H.2.1
  obtain ⟨n0, n1, n2, n3⟩ := nl_spec (B := B) (s := s) hL.1 hL.2.1
  have lr : ∀ i : Int, 0 ≤ lsI B L s i ∧ lsI B L s i ≤ L := fun i => ls_rg hL.1 hL.2.1 _
  have lo := lo_rg (B := B) (L := L) (s := s) (f := lsI B L s (nlF B L s))
  generalize hn : nlF B L s = n at *
  have p23 : pfI h o 12 23 (J 0) = some (wE h o 23 0) := H.pI
  have F0 : FR (fun b k => b = o ∧ k = 23) h (wE h o 23 0) := FR.wE (A := fun b k => b = o ∧ k = 23) ⟨rfl, rfl⟩
  have z0 : hE (wE h o 23 0) o 23 = 0 := by rw [hE_wE (by omega) (by omega) (by omega) (by omega), if_pos ⟨rfl, rfl⟩]
  generalize wE h o 23 0 = h0 at *
  have F0' : FR (Alf o) h h0 := F0.mono (fun b k q => Or.inr q)
  obtain ⟨st, ⟨g, F, p1, p2⟩, el_⟩ := loop_ex (body := fun (k_ : Int32 × Hp → Option (Int32 × Hp)) (st : Int32 × Hp) => b_X12_allLines_7 o (J s) (fun a1_2 hz1 => j_X12_allLines_126 a1_2 hz1) (fun v2q hq => k_ (v2q, hq)) st.1 st.2) (s := (J 1, h0)) (fun i st => ∃ g, FR (Alf o) h g ∧ (i ≤ n → st = (J 1, g) ∧ RK g o B L (lsI B L s i) ∧ ENr g o (tyN el stp B L s i.toNat).1 ∧ D g (tyN el stp B L s i.toNat).1 (tyN el stp B L s i.toNat).2 ∧ hE g o 23 = i) ∧ (n < i → st = (J 0, g) ∧ hE g o 15 = leF B L s (lsI B L s n))) (fun st => some (st.1, st.2)) (if loF B L s (lsI B L s n) = 1 then n + 1 else n) (by split <;> omega) (by split <;> omega) ⟨h0, F0', fun _ => ⟨rfl, K.fr F0 (fun k hk => by omega), e.frame F0 (by omega) (by omega), hD _ _ _ _ _ d F0 (fun k => by omega), z0⟩, fun q => by omega⟩ (by
    rintro k_ i st i0 i1 ⟨g, F, p1, -⟩
    have hin : i ≤ n := by split at i1 <;> omega
    obtain ⟨rfl, Kg, Eg, Dg, v23⟩ := p1 hin
    have Hg := H.alf F
    -- the token isn't the end
    have lon : loF B L s (lsI B L s i) ≠ 0 := by
      by_cases q : i < n
      · have := n2 i i0 q
        omega
      · have y : i = n := by omega
        rw [y]
        intro z
        rw [if_neg (by omega)] at i1
        omega
    have hc : ckF B L (lsI B L s i) ≠ 0 := fun q => lon (by unfold loF; rw [if_pos q])
    have fl : lsI B L s i < L := by
      have := (ck_0 (B := B) (L := L) (f := lsI B L s i))
      omega
    have p22 : pfI g o 12 22 (J 1) = some (wE g o 22 1) := Hg.pI
    have F1 : FR (fun b k => b = o ∧ k = 22) g (wE g o 22 1) := FR.wE (A := fun b k => b = o ∧ k = 22) ⟨rfl, rfl⟩
    have y1 : hE (wE g o 22 1) o 22 = 1 := by rw [hE_wE (by omega) (by omega) (by omega) (by omega), if_pos ⟨rfl, rfl⟩]
    generalize wE g o 22 1 = g1 at *
    have H1 : RP g1 o B L := Hg.ata (F1.mono (fun b k q => by unfold Ard; omega))
    have p21 : pfI g1 o 12 21 (J 0) = some (wE g1 o 21 0) := H1.pI
    have F2 : FR (fun b k => b = o ∧ k = 21) g1 (wE g1 o 21 0) := FR.wE (A := fun b k => b = o ∧ k = 21) ⟨rfl, rfl⟩
    have y2 : hE (wE g1 o 21 0) o 21 = 0 := by rw [hE_wE (by omega) (by omega) (by omega) (by omega), if_pos ⟨rfl, rfl⟩]
    generalize wE g1 o 21 0 = g2 at *
    have F02 : FR (Ard o) g g2 := (F1.mono (fun b k q => by unfold Ard; omega)).trans (F2.mono (fun b k q => by unfold Ard; omega))
    have H2 := Hg.ata F02
    obtain ⟨x, g3, e3, RX⟩ := hline g2 i.toNat (by omega) fl H2 ((Kg.fr F1 (fun k hk => by omega)).fr F2 (fun k hk => by omega)) ((Eg.frame F1 (by omega) (by omega)).frame F2 (by omega) (by omega)) (hD _ _ _ _ _ (hD _ _ _ _ _ Dg F1 (fun k => by omega)) F2 (fun k => by omega)) (by rw [F2.e (by omega), y1]) y2 (by rw [F2.e (by omega), F1.e (by omega), v23]; omega)
    rw [show lsN B L s i.toNat = lsI B L s i from rfl] at e3 RX
    -- up to the line
    have f12 := Kg.f12 Hg
    have hd : ∀ (k2 : Int32 → Hp → Option (Int32 × Hp)), b_X12_allLines_7 o (J s) (fun a1_2 hz1 => j_X12_allLines_126 a1_2 hz1) k2 (J 1) g = j_X12_allLines_87 o (J s) (J x) g3 (fun a1_2 hz1 => j_X12_allLines_126 a1_2 hz1) k2 := fun k2 => by
      have rg := rk_rg (B := B) (L := L) (p := lsI B L s i)
      have r0 := rk_0 (B := B) (L := L) (p := lsI B L s i)
      have mid : j_X12_allLines_39 o (J s) (J (lsI B L s i)) (ltF B L (lsI B L s i)) g (fun a1_2 hz1 => j_X12_allLines_126 a1_2 hz1) k2 = j_X12_allLines_87 o (J s) (J x) g3 (fun a1_2 hz1 => j_X12_allLines_126 a1_2 hz1) k2 := by
        unfold lnFn at e3
        have : s = 0 ∨ s = 1 ∨ s = 2 := by omega
        rcases this with q | q | q
        · rw [q] at e3 ⊢
          rw [if_pos rfl] at e3
          simp (disch := omega) only [j_X12_allLines_39, p22, p21, rc_ok H2.tag, e3, lm8, lm2, lm1, l0, l1, l2, l3, l4, l5, l6, l7, l8, l9, l10, l11, l12, l13, l14, l15, l16, l17, l18, l19, l20, l21, l22, l23, l24, l25, l27, l31, l32, l40, l46, l48, l50, l57, l59, l63, l86, l96, l97, l100, l110, l114, l122, l127, l200, l255, l300, l319, l320, l340, l441, l456, l580, l600, l800, l886, l1206, l1526, J_add, J_sub, J_mul, J_neg, J_lt, J_le, J_eq, jT, jF, iT, iF, eT, eF, aT, aF, ite_true, ite_false, ite_not, bs]
        · rw [q] at e3 ⊢
          rw [if_neg (by omega), if_pos rfl] at e3
          simp (disch := omega) only [j_X12_allLines_39, p22, p21, rc_ok H2.tag, e3, lm8, lm2, lm1, l0, l1, l2, l3, l4, l5, l6, l7, l8, l9, l10, l11, l12, l13, l14, l15, l16, l17, l18, l19, l20, l21, l22, l23, l24, l25, l27, l31, l32, l40, l46, l48, l50, l57, l59, l63, l86, l96, l97, l100, l110, l114, l122, l127, l200, l255, l300, l319, l320, l340, l441, l456, l580, l600, l800, l886, l1206, l1526, J_add, J_sub, J_mul, J_neg, J_lt, J_le, J_eq, jT, jF, iT, iF, eT, eF, aT, aF, ite_true, ite_false, ite_not, bs]
        · rw [q] at e3 ⊢
          rw [if_neg (by omega), if_neg (by omega)] at e3
          simp (disch := omega) only [j_X12_allLines_39, p22, p21, rc_ok H2.tag, e3, lm8, lm2, lm1, l0, l1, l2, l3, l4, l5, l6, l7, l8, l9, l10, l11, l12, l13, l14, l15, l16, l17, l18, l19, l20, l21, l22, l23, l24, l25, l27, l31, l32, l40, l46, l48, l50, l57, l59, l63, l86, l96, l97, l100, l110, l114, l122, l127, l200, l255, l300, l319, l320, l340, l441, l456, l580, l600, l800, l886, l1206, l1526, J_add, J_sub, J_mul, J_neg, J_lt, J_le, J_eq, jT, jF, iT, iF, eT, eF, aT, aF, ite_true, ite_false, ite_not, bs]
      by_cases c2 : rkF B L (lsI B L s i) = 2
      · have e14 := Hg.fJ
        rw [Kg.2.2.2.2] at e14
        rw [c2] at f12
        rw [← mid]
        simp (disch := omega) only [b_X12_allLines_7, f12, Kg.f11 Hg, e14, lm8, lm2, lm1, l0, l1, l2, l3, l4, l5, l6, l7, l8, l9, l10, l11, l12, l13, l14, l15, l16, l17, l18, l19, l20, l21, l22, l23, l24, l25, l27, l31, l32, l40, l46, l48, l50, l57, l59, l63, l86, l96, l97, l100, l110, l114, l122, l127, l200, l255, l300, l319, l320, l340, l441, l456, l580, l600, l800, l886, l1206, l1526, J_add, J_sub, J_mul, J_neg, J_lt, J_le, J_eq, jT, jF, iT, iF, eT, eF, aT, aF, ite_true, ite_false, ite_not, bs]
      · have lz : ltF B L (lsI B L s i) = 0 := by
          unfold ltF
          rw [if_neg c2]
        rw [lz] at mid
        rw [← mid]
        generalize rkF B L (lsI B L s i) = y at *
        have c2' : y < 2 ∨ 2 < y := by omega
        have c0' : y < 0 ∨ 0 < y := by omega
        simp (disch := first | omega | exact c2' | exact c0') only [b_X12_allLines_7, f12, Kg.f11 Hg, lm8, lm2, lm1, l0, l1, l2, l3, l4, l5, l6, l7, l8, l9, l10, l11, l12, l13, l14, l15, l16, l17, l18, l19, l20, l21, l22, l23, l24, l25, l27, l31, l32, l40, l46, l48, l50, l57, l59, l63, l86, l96, l97, l100, l110, l114, l122, l127, l200, l255, l300, l319, l320, l340, l441, l456, l580, l600, l800, l886, l1206, l1526, J_add, J_sub, J_mul, J_neg, J_lt, J_le, J_eq, jT, jF, iT, iF, eT, eF, aT, aF, ite_true, ite_false, ite_not, bs]
    have F03 : FR (Ard o) g g2 := F02
    rcases RX with ⟨x0, lo1, F3, v⟩ | ⟨x1, kr, mi, F3, K3, E3, D3⟩
    · -- wrong in its items
      have iN : i = n := by
        by_cases q : i < n
        · have := n2 i i0 q
          omega
        · omega
      refine ⟨(J 0, g3), ⟨g3, (F.trans (F02.mono (fun b k q => Or.inl (Or.inl q)))).trans (F3.mono (fun b k q => Or.inl q)), fun q => by omega, fun _ => ⟨rfl, by rw [← iN]; exact v⟩⟩, ?_⟩
      show b_X12_allLines_7 o (J s) (fun a1_2 hz1 => j_X12_allLines_126 a1_2 hz1) (fun v2q hq => k_ (v2q, hq)) (J 1) g = _
      rw [hd, x0]
      simp (disch := omega) only [j_X12_allLines_87, j_X12_allLines_105, j_X12_allLines_123, lm8, lm2, lm1, l0, l1, l2, l3, l4, l5, l6, l7, l8, l9, l10, l11, l12, l13, l14, l15, l16, l17, l18, l19, l20, l21, l22, l23, l24, l25, l27, l31, l32, l40, l46, l48, l50, l57, l59, l63, l86, l96, l97, l100, l110, l114, l122, l127, l200, l255, l300, l319, l320, l340, l441, l456, l580, l600, l800, l886, l1206, l1526, J_add, J_sub, J_mul, J_neg, J_lt, J_le, J_eq, jT, jF, iT, iF, eT, eF, aT, aF, ite_true, ite_false, ite_not, bs]
    · have H3 : RP g3 o B L := H2.arl F3
      have Fg3 := (F.trans (F02.mono (fun b k q => Or.inl (Or.inl q)))).trans (F3.mono (fun b k q => Or.inl q))
      have f12' := K3.f12 H3
      have r4 := rk_4 (B := B) (L := L) (p := leF B L s (lsI B L s i))
      have lL := le_rg (B := B) (s := s) (lr i).1 (lr i).2 hL.2.1
      have r0 := (lr i).1
      have lf : loF B L s (lsI B L s i) = if ckF B L (leF B L s (lsI B L s i)) = 3 then 2 else 1 := by
        have en : enF B L (lsI B L s i) (liK B L s (lsI B L s i)) = 1 + shL (liK B L s (lsI B L s i)) + exF B L (lsI B L s i) (liK B L s (lsI B L s i)) := by unfold enF; rw [if_pos mi]
        have hle : leF B L s (lsI B L s i) = tkI B L (lsI B L s i) (enF B L (lsI B L s i) (liK B L s (lsI B L s i))) := by
          unfold leF
          rw [if_neg hc, if_neg (by omega)]
        rw [hle]
        unfold loF
        rw [if_neg hc, if_neg (show ¬ liK B L s (lsI B L s i) = -1 by omega)]
        by_cases q : ckF B L (tkI B L (lsI B L s i) (enF B L (lsI B L s i) (liK B L s (lsI B L s i)))) = 3
        · rw [if_pos ⟨mi, q⟩, if_pos q]
        · rw [if_neg (fun y => q y.2), if_neg q]
      by_cases c3 : ckF B L (leF B L s (lsI B L s i)) = 3
      · -- whole
        rw [if_pos c3] at lf
        have iN : i < n := by
          by_cases q : i < n
          · exact q
          · exfalso
            rw [show i = n by omega] at lf
            exact n3 lf
        rw [r4.mpr c3] at f12'
        obtain ⟨g4, e4, F4, K4⟩ := K3.next H3 (by omega) lL.2
        have H4 : RP g4 o B L := H3.frk F4
        have w23 : hE g4 o 23 = i := by
          rw [F4.e (by unfold ARk; omega), F3.e (by unfold Arl Ard; omega), F02.e (by unfold Ard; omega), v23]
        have e23 : gfI g4 o 12 23 = some (J i) := by rw [H4.fI]; exact congrArg (fun z => some (J z)) w23
        have q23 : pfI g4 o 12 23 (J (i + 1)) = some (wE g4 o 23 (i + 1)) := H4.pI
        have F5 : FR (fun b k => b = o ∧ k = 23) g4 (wE g4 o 23 (i + 1)) := FR.wE (A := fun b k => b = o ∧ k = 23) ⟨rfl, rfl⟩
        have z5 : hE (wE g4 o 23 (i + 1)) o 23 = i + 1 := by rw [hE_wE (by omega) (by omega) (by omega) (by omega), if_pos ⟨rfl, rfl⟩]
        generalize wE g4 o 23 (i + 1) = g5 at *
        refine ⟨(J 1, g5), ⟨g5, (Fg3.trans (F4.mono (fun b k q => Or.inl (Or.inl (Ard_n q))))).trans (F5.mono (fun b k q => Or.inr q)), fun _ => ⟨rfl, ?_, ?_, ?_, z5⟩, fun q => by omega⟩, ?_⟩
        · rw [lsI_succ i0]
          exact K4.fr F5 (fun k hk => by omega)
        · rw [show (i + 1).toNat = i.toNat + 1 by omega]
          exact (E3.frame F4 (by unfold ARk; omega) (by unfold ARk; omega)).frame F5 (by omega) (by omega)
        · rw [show (i + 1).toNat = i.toNat + 1 by omega]
          exact hD _ _ _ _ _ (hD _ _ _ _ _ D3 F4 (fun k => by unfold ARk; omega)) F5 (fun k => by omega)
        · show b_X12_allLines_7 o (J s) (fun a1_2 hz1 => j_X12_allLines_126 a1_2 hz1) (fun v2q hq => k_ (v2q, hq)) (J 1) g = _
          rw [hd, x1]
          simp (disch := omega) only [j_X12_allLines_87, j_X12_allLines_105, j_X12_allLines_123, f12', rc_ok H3.tag, e4, e23, q23, lm8, lm2, lm1, l0, l1, l2, l3, l4, l5, l6, l7, l8, l9, l10, l11, l12, l13, l14, l15, l16, l17, l18, l19, l20, l21, l22, l23, l24, l25, l27, l31, l32, l40, l46, l48, l50, l57, l59, l63, l86, l96, l97, l100, l110, l114, l122, l127, l200, l255, l300, l319, l320, l340, l441, l456, l580, l600, l800, l886, l1206, l1526, J_add, J_sub, J_mul, J_neg, J_lt, J_le, J_eq, jT, jF, iT, iF, eT, eF, aT, aF, ite_true, ite_false, ite_not, bs]
      · -- no stop
        rw [if_neg c3] at lf
        have iN : i = n := by
          by_cases q : i < n
          · have := n2 i i0 q
            omega
          · omega
        obtain ⟨g4, e4, F4, v4⟩ := K3.fails H3
        have rg := rk_rg (B := B) (L := L) (p := leF B L s (lsI B L s i))
        refine ⟨(J 0, g4), ⟨g4, Fg3.trans (F4.mono (fun b k q => Or.inl (Or.inl (Ard_f q)))), fun q => by omega, fun _ => ⟨rfl, by rw [← iN]; exact v4⟩⟩, ?_⟩
        show b_X12_allLines_7 o (J s) (fun a1_2 hz1 => j_X12_allLines_126 a1_2 hz1) (fun v2q hq => k_ (v2q, hq)) (J 1) g = _
        rw [hd, x1]
        generalize rkF B L (leF B L s (lsI B L s i)) = y at *
        have c4' : y < 4 ∨ 4 < y := by omega
        simp (disch := first | omega | exact c4') only [j_X12_allLines_87, j_X12_allLines_105, j_X12_allLines_123, f12', rc_ok H3.tag, e4, lm8, lm2, lm1, l0, l1, l2, l3, l4, l5, l6, l7, l8, l9, l10, l11, l12, l13, l14, l15, l16, l17, l18, l19, l20, l21, l22, l23, l24, l25, l27, l31, l32, l40, l46, l48, l50, l57, l59, l63, l86, l96, l97, l100, l110, l114, l122, l127, l200, l255, l300, l319, l320, l340, l441, l456, l580, l600, l800, l886, l1206, l1526, J_add, J_sub, J_mul, J_neg, J_lt, J_le, J_eq, jT, jF, iT, iF, eT, eF, aT, aF, ite_true, ite_false, ite_not, bs]) (by
    rintro k_ st ⟨g, F, p1, p2⟩
    by_cases c : loF B L s (lsI B L s n) = 1
    · rw [if_pos c] at p1 p2
      obtain ⟨rfl, v⟩ := p2 (by omega)
      show b_X12_allLines_7 o (J s) (fun a1_2 hz1 => j_X12_allLines_126 a1_2 hz1) (fun v2q hq => k_ (v2q, hq)) (J 0) g = _
      simp (disch := omega) only [b_X12_allLines_7, j_X12_allLines_126, zb0, lm8, lm2, lm1, l0, l1, l2, l3, l4, l5, l6, l7, l8, l9, l10, l11, l12, l13, l14, l15, l16, l17, l18, l19, l20, l21, l22, l23, l24, l25, l27, l31, l32, l40, l46, l48, l50, l57, l59, l63, l86, l96, l97, l100, l110, l114, l122, l127, l200, l255, l300, l319, l320, l340, l441, l456, l580, l600, l800, l886, l1206, l1526, J_add, J_sub, J_mul, J_neg, J_lt, J_le, J_eq, jT, jF, iT, iF, eT, eF, aT, aF, ite_true, ite_false, ite_not, bs]
    · rw [if_neg c] at p1 p2
      obtain ⟨rfl, Kg, -⟩ := p1 (by omega)
      have hc : ckF B L (lsI B L s n) = 0 := by
        by_cases q : ckF B L (lsI B L s n) = 0
        · exact q
        · exfalso
          have z : loF B L s (lsI B L s n) = 0 := by omega
          unfold loF at z
          rw [if_neg q] at z
          repeat' split at z
          all_goals omega
      have f12 := Kg.f12 (H.alf F)
      rw [(rk_0 (B := B) (L := L) (p := lsI B L s n)).mpr hc] at f12
      show b_X12_allLines_7 o (J s) (fun a1_2 hz1 => j_X12_allLines_126 a1_2 hz1) (fun v2q hq => k_ (v2q, hq)) (J 1) g = _
      simp (disch := omega) only [b_X12_allLines_7, j_X12_allLines_126, f12, zb1, lm8, lm2, lm1, l0, l1, l2, l3, l4, l5, l6, l7, l8, l9, l10, l11, l12, l13, l14, l15, l16, l17, l18, l19, l20, l21, l22, l23, l24, l25, l27, l31, l32, l40, l46, l48, l50, l57, l59, l63, l86, l96, l97, l100, l110, l114, l122, l127, l200, l255, l300, l319, l320, l340, l441, l456, l580, l600, l800, l886, l1206, l1526, J_add, J_sub, J_mul, J_neg, J_lt, J_le, J_eq, jT, jF, iT, iF, eT, eF, aT, aF, ite_true, ite_false, ite_not, bs])
  have hd : m_X12_allLines o (J s) h = some (st.1, st.2) := by
    unfold m_X12_allLines
    rw [show (0 : Int32) = J 0 from rfl, p23, bs]
    exact el_
  by_cases c : loF B L s (lsI B L s n) = 1
  · rw [if_pos c] at p1 p2
    obtain ⟨rfl, v⟩ := p2 (by omega)
    refine ⟨g, by rw [hd, if_pos c], F, fun _ => v, fun q => absurd c q⟩
  · rw [if_neg c] at p1 p2
    obtain ⟨rfl, Kg, Eg, Dg, -⟩ := p1 (by omega)
    refine ⟨g, by rw [hd, if_neg c], F, fun q => absurd q c, fun _ => ⟨Eg, Dg⟩⟩
end LLo
