/-! PURE PART: a line read, the class -/
def shS (k : Nat) : Nat := [16, 17, 18, 19, 19, 19, 21, 21, 15, 21, 20, 20, 21, 21, 21].getD k 0
theorem sh_len : ∀ k : Fin 15, strLen (tN (shS k)) = some (J (shL ((k : Nat) : Int))) := by decide +kernel
theorem sh_ch : ∀ k : Fin 15, ∀ i : Fin 6, ((i : Nat) : Int) < shL ((k : Nat) : Int) → strCh (tN (shS k)) (J ((i : Nat) : Int)) = some (J (if ((i : Nat) : Int) < wCk ((k : Nat) : Int) then 119 else 110)) := by decide +kernel
theorem shLen_ok {k : Int} (k0 : 0 ≤ k) (k1 : k < 15) : strLen (tN (shS k.toNat)) = some (J (shL k)) := by
  have := sh_len ⟨k.toNat, by omega⟩
  rw [show (((⟨k.toNat, by omega⟩ : Fin 15) : Nat) : Int) = k by show ((k.toNat : Nat) : Int) = k; omega] at this
  exact this
theorem shCh_ok {k i : Int} (k0 : 0 ≤ k) (k1 : k < 15) (i0 : 0 ≤ i) (i1 : i < shL k) : strCh (tN (shS k.toNat)) (J i) = some (J (if i < wCk k then 119 else 110)) := by
  have kr := kk_rg k
  have := sh_ch ⟨k.toNat, by omega⟩ ⟨i.toNat, by omega⟩
  rw [show (((⟨k.toNat, by omega⟩ : Fin 15) : Nat) : Int) = k by show ((k.toNat : Nat) : Int) = k; omega, show (((⟨i.toNat, by omega⟩ : Fin 6) : Nat) : Int) = i by show ((i.toNat : Nat) : Int) = i; omega] at this
  exact this i1
theorem X4_shapeOf_ok {h : Hp} {k : Int} (k0 : 0 ≤ k) (k1 : k < 15) : m_X4_shapeOf (J k) h = some (tN (shS k.toNat)) := by
  have : k = 0 ∨ k = 1 ∨ k = 2 ∨ k = 3 ∨ k = 4 ∨ k = 5 ∨ k = 6 ∨ k = 7 ∨ k = 8 ∨ k = 9 ∨ k = 10 ∨ k = 11 ∨ k = 12 ∨ k = 13 ∨ k = 14 := by omega
  rcases this with q | q | q | q | q | q | q | q | q | q | q | q | q | q | q <;> · rw [q]; rfl
/-- the tape's token is the one that begins at f -/
def TP (h : Hp) (a : Nat) (B : Int → Int) (L f : Int) : Prop := hE h a 2 = ckF B L f ∧ hE h a 3 = f ∧ hE h a 4 = toF B L f
def ARd (l a b k : Nat) : Prop := (b = l ∧ k ≤ 4) ∨ (l < b ∧ b ≤ l + 4) ∨ ATk a b k
theorem ARd_sub {l a b k : Nat} (q : ALn l b k ∨ ATk a b k) : ARd l a b k := by
  unfold ALn at q
  unfold ARd
  unfold ATk at *
  omega
theorem sp_rg {B : Int → Int} {f t : Int} (hl : ∀ k, f ≤ k → k < t → 97 ≤ B k ∧ B k ≤ 122) : -2147483648 ≤ spF B f t ∧ spF B f t < 2147483648 := by
  have g : ∀ i, 0 ≤ i → 0 ≤ lcF B f t i ∧ lcF B f t i ≤ 26 := fun i i0 => by
    unfold lcF
    by_cases c : f + i < t
    · rw [if_pos c]
      have := hl (f + i) (by omega) c
      omega
    · rw [if_neg c]
      omega
  have g0 := g 0 (by omega)
  have g1 := g 1 (by omega)
  have g2 := g 2 (by omega)
  have g3 := g 3 (by omega)
  unfold spF
  omega
/-- as far as i items are read -/
def RI (h0 g : Hp) (l a : Nat) (B : Int → Int) (L f k nn nw p : Int) : Prop := FR (ARd l a) h0 g ∧ CL g l nn nw (viF B L f k) (vpF B L f k) (spL B L f k) (wpF B L f k) ∧ hE g l 0 = k ∧ hE g l 1 = f ∧ hE g l 4 = msF B L f k nw ∧ TP g a B L p
section RD
variable {h h0 : Hp} {l a : Nat} {B : Int → Int} {L f k nn nw p : Int}
theorem RI.ct (R : RI h0 h l a B L f k nn nw p) (H : CT h0 a B L) (hal : a + 1 < l ∨ l + 4 < a) : CT h a B L := by
  refine H.frame R.1 ?_ (fun k => ?_) <;> · unfold ARd ATk; omega
theorem RI.number (R : RI h0 h l a B L f k nn nw p) (H : CT h0 a B L) (hal : a + 1 < l ∨ l + 4 < a) (fL : f ≤ L) (f0 : 0 ≤ f) (n2 : nn ≤ 2) (hp : p = vpF B L f k nn) (c : ckF B L p = 2) (p0 : 0 ≤ p) (pL : p ≤ L) : ∃ h', m_X4_takesNumber l a h = some (J 1, h') ∧ RI h0 h' l a B L f k (nn + 1) nw (nxF B L p) := by
  obtain ⟨r1, r2, r3, r4, r5, r6, r7, r8⟩ := R
  have H' := (show RI h0 h l a B L f k nn nw p from ⟨r1, r2, r3, r4, r5, r6, r7, r8⟩).ct H hal
  obtain ⟨c1, c2, c3, c4, c5, c6⟩ := ck_num c pL
  have hv : viF B L f k nn = nuN B p (toF B L p - p) := by unfold viF; rw [← hp]
  obtain ⟨h', e, F, C', m4, t2, t3, t4⟩ := r2.number H' (by omega) (by omega) n2 (by rw [r6, c]) r7 r8 p0 c4 c2 c3 hv hp.symm (by rw [hv]; omega)
  refine ⟨h', e, r1.trans (F.mono (fun b k q => ARd_sub q)), C', ?_, ?_, by rw [m4, r5], t2, t3, t4⟩
  · rw [F.e (by unfold ALn ATk; omega), r3]
  · rw [F.e (by unfold ALn ATk; omega), r4]
theorem RI.word (R : RI h0 h l a B L f k nn nw p) (H : CT h0 a B L) (hal : a + 1 < l ∨ l + 4 < a) (fL : f ≤ L) (f0 : 0 ≤ f) (n0 : 0 ≤ nw) (n2 : nw < 700) (hp : p = wpF B L f k nw) (c : ckF B L p = 1) (p0 : 0 ≤ p) (pL : p ≤ L) : ∃ h', m_X4_takesWord l a h = some (J 1, h') ∧ RI h0 h' l a B L f k nn (nw + 1) (nxF B L p) := by
  obtain ⟨r1, r2, r3, r4, r5, r6, r7, r8⟩ := R
  have H' := (show RI h0 h l a B L f k nn nw p from ⟨r1, r2, r3, r4, r5, r6, r7, r8⟩).ct H hal
  obtain ⟨c1, c2, c3, c4⟩ := ck_let c pL
  have hv : spL B L f k nw = spF B p (toF B L p) := by unfold spL; rw [← hp]
  have hm : -1 ≤ msF B L f k nw := by
    unfold msF
    rcases fiZ_spec nw (lgB B L f k) with ⟨e1, e2⟩ | ⟨e1, e2, e3, e4⟩
    · rw [if_pos e1]
      omega
    · rw [if_neg (by omega)]
      have kr := kk_rg k
      have := (tk_rg (B := B) (i := 1 + wOk k + fiZ nw (lgB B L f k)) fL (by omega)).1
      unfold wpF
      omega
  obtain ⟨h', e, F, C', m4, t2, t3, t4⟩ := r2.word H' (by omega) (by omega) n2 r5 hm (by rw [r6, c]) r7 r8 p0 c3 (by omega) hv hp.symm (by rw [hv]; exact sp_rg c4)
  refine ⟨h', e, r1.trans (F.mono (fun b k q => ARd_sub q)), C', ?_, ?_, ?_, t2, t3, t4⟩
  · rw [F.e (by unfold ALn ATk; omega), r3]
  · rw [F.e (by unfold ALn ATk; omega), r4]
  · rw [m4, ms_succ n0 f0 fL, hp]
/-- the items that a line must have -/
theorem RI.items {K : Hp → Option (Int32 × Hp)} (R : RI h0 h l a B L f k 0 0 (tkI B L f 1)) (H : CT h0 a B L) (hal : a + 1 < l ∨ l + 4 < a) (fL : f ≤ L) (f0 : 0 ≤ f) (k0 : 0 ≤ k) (k1 : k < 15) : ∃ h', l_X4_read_70 l a (tN (shS k.toNat)) (fun hz9 => j_X4_read_98 hz9) K (J 0) h = (if miF B L f k = -1 then K h' else some (J 1, h')) ∧ (miF B L f k ≠ -1 → FR (ARd l a) h0 h' ∧ TP h' a B L (tkI B L f (1 + miF B L f k))) ∧ (miF B L f k = -1 → RI h0 h' l a B L f k (nCk k) (wCk k) (tkI B L f (1 + shL k))) := by
  have kr := kk_rg k
  have hL2 := H.2.1.2.1
  obtain ⟨n, hn⟩ : ∃ n : Int, n = if miF B L f k = -1 then shL k else miF B L f k := ⟨_, rfl⟩
  have mi := mi_spec (B := B) (L := L) (f := f) (k := k)
  have n0 : 0 ≤ n ∧ n ≤ shL k := by
    rw [hn]
    rcases mi with ⟨e1, _⟩ | ⟨e1, e2, _⟩
    · rw [if_pos e1]; omega
    · rw [if_neg (by omega)]; omega
  have all : ∀ i, 0 ≤ i → i < n → ckF B L (tkI B L f (1 + i)) = cnK k i := by
    intro i i0 i1
    rw [hn] at i1
    rcases mi with ⟨e1, e2⟩ | ⟨e1, e2, _, e4⟩
    · rw [if_pos e1] at i1
      exact e2 i i0 i1
    · rw [if_neg (by omega)] at i1
      exact e4 i i0 i1
  have sl := shLen_ok k0 k1
  obtain ⟨s, ⟨g, rfl, G⟩, el⟩ := loop_ex (body := fun (k_ : Int32 × Hp → Option (Int32 × Hp)) (s : Int32 × Hp) => b_X4_read_70 l a (tN (shS k.toNat)) (fun hz9 => j_X4_read_98 hz9) K (fun v4q hq => k_ (v4q, hq)) s.1 s.2) (s := (J 0, h)) (fun i s => ∃ g, s = (J i, g) ∧ RI h0 g l a B L f k (if i < wCk k then 0 else i - wCk k) (if i < wCk k then i else wCk k) (tkI B L f (1 + i))) (fun s => if miF B L f k = -1 then K s.2 else some (J 1, s.2)) n n0.1 (by omega) ⟨h, rfl, by
      by_cases c : 0 < wCk k
      · rw [if_pos c, if_pos c]
        exact R
      · rw [if_neg c, if_neg c, show (0 : Int) - wCk k = 0 by omega, show wCk k = 0 by omega]
        exact R⟩ (by
    rintro k_ i s i0 i1 ⟨g, rfl, G⟩
    have tr := tk_rg (B := B) (i := 1 + i) fL (by omega)
    have ck := all i i0 i1
    have sc := shCh_ok k0 k1 i0 (by omega)
    have nx : nxF B L (tkI B L f (1 + i)) = tkI B L f (1 + (i + 1)) := by rw [show 1 + (i + 1) = (1 + i) + 1 by omega, tkI_succ (by omega)]
    by_cases c : i < wCk k
    · unfold cnK at ck
      rw [if_pos c] at sc ck
      rw [if_pos c, if_pos c] at G
      have w0 : wOk k = 0 := by
        unfold wCk at c
        unfold wOk
        split
        · exfalso
          rw [if_neg (by omega), if_neg (by omega), if_neg (by omega)] at c
          omega
        · rfl
      obtain ⟨g', e, G'⟩ := G.word H hal fL f0 i0 (by omega) (by unfold wpF; rw [w0, Int.add_zero]) ck (by omega) tr.2.1
      rw [nx] at G'
      refine ⟨(J (i + 1), g'), ⟨g', rfl, ?_⟩, ?_⟩
      · by_cases c2 : i + 1 < wCk k
        · rw [if_pos c2, if_pos c2]
          exact G'
        · rw [if_neg c2, if_neg c2, show i + 1 - wCk k = 0 by omega, show wCk k = i + 1 by omega]
          exact G'
      · show b_X4_read_70 l a (tN (shS k.toNat)) (fun hz9 => j_X4_read_98 hz9) K (fun v4q hq => k_ (v4q, hq)) (J i) g = _
        simp (disch := omega) only [b_X4_read_70, j_X4_read_111, sl, sc, rc_ok G.2.1.tag, e, lm8, lm2, lm1, l0, l1, l2, l3, l4, l5, l6, l7, l8, l9, l10, l11, l12, l13, l14, l15, l16, l17, l18, l19, l20, l21, l22, l23, l24, l25, l27, l31, l32, l40, l46, l48, l50, l57, l59, l63, l86, l96, l97, l100, l110, l114, l122, l127, l200, l255, l300, l319, l320, l340, l441, l456, l580, l600, l800, l886, l1206, l1526, J_add, J_sub, J_mul, J_neg, J_lt, J_le, J_eq, jT, jF, iT, iF, eT, eF, aT, aF, ite_true, ite_false, ite_not, bs]
    · unfold cnK at ck
      rw [if_neg c] at sc ck
      rw [if_neg c, if_neg c] at G
      obtain ⟨g', e, G'⟩ := G.number H hal fL f0 (by omega) (by unfold vpF; rw [show 1 + wCk k + (i - wCk k) = 1 + i by omega]) ck (by omega) tr.2.1
      rw [nx] at G'
      refine ⟨(J (i + 1), g'), ⟨g', rfl, ?_⟩, ?_⟩
      · rw [if_neg (by omega), if_neg (by omega), show i + 1 - wCk k = i - wCk k + 1 by omega]
        exact G'
      · show b_X4_read_70 l a (tN (shS k.toNat)) (fun hz9 => j_X4_read_98 hz9) K (fun v4q hq => k_ (v4q, hq)) (J i) g = _
        simp (disch := omega) only [b_X4_read_70, j_X4_read_111, sl, sc, rc_ok G.2.1.tag, e, lm8, lm2, lm1, l0, l1, l2, l3, l4, l5, l6, l7, l8, l9, l10, l11, l12, l13, l14, l15, l16, l17, l18, l19, l20, l21, l22, l23, l24, l25, l27, l31, l32, l40, l46, l48, l50, l57, l59, l63, l86, l96, l97, l100, l110, l114, l122, l127, l200, l255, l300, l319, l320, l340, l441, l456, l580, l600, l800, l886, l1206, l1526, J_add, J_sub, J_mul, J_neg, J_lt, J_le, J_eq, jT, jF, iT, iF, eT, eF, aT, aF, ite_true, ite_false, ite_not, bs]) (by
    rintro k_ s ⟨g, rfl, G⟩
    show b_X4_read_70 l a (tN (shS k.toNat)) (fun hz9 => j_X4_read_98 hz9) K (fun v4q hq => k_ (v4q, hq)) (J n) g = if miF B L f k = -1 then K g else some (J 1, g)
    by_cases cm : miF B L f k = -1
    · rw [if_pos cm]
      rw [if_pos cm] at hn
      simp (disch := omega) only [b_X4_read_70, sl, lm8, lm2, lm1, l0, l1, l2, l3, l4, l5, l6, l7, l8, l9, l10, l11, l12, l13, l14, l15, l16, l17, l18, l19, l20, l21, l22, l23, l24, l25, l27, l31, l32, l40, l46, l48, l50, l57, l59, l63, l86, l96, l97, l100, l110, l114, l122, l127, l200, l255, l300, l319, l320, l340, l441, l456, l580, l600, l800, l886, l1206, l1526, J_add, J_sub, J_mul, J_neg, J_lt, J_le, J_eq, jT, jF, iT, iF, eT, eF, aT, aF, ite_true, ite_false, ite_not, bs]
    · rw [if_neg cm]
      rw [if_neg cm] at hn
      rcases mi with ⟨e1, _⟩ | ⟨e1, e2, e3, _⟩
      · exact absurd e1 cm
      · rw [← hn] at e1 e2 e3
        have sc := shCh_ok k0 k1 e1 e2
        have cr := ck_rg (B := B) (L := L) (f := tkI B L f (1 + n))
        have H' := G.ct H hal
        unfold cnK at e3
        by_cases c : n < wCk k
        · rw [if_pos c] at sc e3
          have e := X4_noWord (l := l) H' G.2.2.2.2.2.1 cr e3
          simp (disch := omega) only [b_X4_read_70, sl, sc, rc_ok G.2.1.tag, e, lm8, lm2, lm1, l0, l1, l2, l3, l4, l5, l6, l7, l8, l9, l10, l11, l12, l13, l14, l15, l16, l17, l18, l19, l20, l21, l22, l23, l24, l25, l27, l31, l32, l40, l46, l48, l50, l57, l59, l63, l86, l96, l97, l100, l110, l114, l122, l127, l200, l255, l300, l319, l320, l340, l441, l456, l580, l600, l800, l886, l1206, l1526, J_add, J_sub, J_mul, J_neg, J_lt, J_le, J_eq, jT, jF, iT, iF, eT, eF, aT, aF, ite_true, ite_false, ite_not, bs]
        · rw [if_neg c] at sc e3
          have e := X4_noNumber (l := l) H' G.2.2.2.2.2.1 cr e3
          simp (disch := omega) only [b_X4_read_70, j_X4_read_98, sl, sc, rc_ok G.2.1.tag, e, lm8, lm2, lm1, l0, l1, l2, l3, l4, l5, l6, l7, l8, l9, l10, l11, l12, l13, l14, l15, l16, l17, l18, l19, l20, l21, l22, l23, l24, l25, l27, l31, l32, l40, l46, l48, l50, l57, l59, l63, l86, l96, l97, l100, l110, l114, l122, l127, l200, l255, l300, l319, l320, l340, l441, l456, l580, l600, l800, l886, l1206, l1526, J_add, J_sub, J_mul, J_neg, J_lt, J_le, J_eq, jT, jF, iT, iF, eT, eF, aT, aF, ite_true, ite_false, ite_not, bs])
  refine ⟨g, el, fun q => ?_, fun q => ?_⟩
  · rw [if_neg q] at hn
    rw [← hn]
    exact ⟨G.1, G.2.2.2.2.2⟩
  · rw [if_pos q] at hn
    rw [hn, if_neg (by omega), if_neg (by omega), show shL k - wCk k = nCk k by omega] at G
    exact G
end RD
