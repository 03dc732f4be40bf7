/-! PURE PART: the reference's next token -/
/-- what the reference reads: L bytes B -/
def RP (h : Hp) (o : Nat) (B : Int → Int) (L : Int) : Prop := TR (top h) o ∧ BW B L ∧ hE h o 10 = L ∧ ∀ k, 0 ≤ k → k < 600 → hE h (o + 1) k = B k
def ARk (o b k : Nat) : Prop := b = o ∧ (k = 9 ∨ k = 11 ∨ k = 12 ∨ k = 13 ∨ k = 14)
def seF (B : Int → Int) (L p : Int) : Int := if L ≤ p then -1 else B p % 256
def rkF (B : Int → Int) (L f : Int) : Int := if L ≤ f then 0 else if leB (B f) = true then 2 else if diB (B f) = true then (if 2 < toF B L f - f then 1 else 3) else if B f = 59 then 4 else 1
/-- letters as a long -/
def ltI (B : Int → Int) (f : Int) : Nat → Int64
  | 0 => 0
  | n + 1 => lshlF (ltI B f n) (J 8) ||| Int32.toInt64 (J (B (f + n)))
/-- the value of digits, two at most -/
def nuN (B : Int → Int) (f n : Int) : Int := if n ≤ 0 then 0 else if n = 1 then B f - 48 else 10 * (B f - 48) + (B (f + 1) - 48)
def ltF (B : Int → Int) (L f : Int) : Int64 := if rkF B L f = 2 then (if toF B L f - f ≤ 8 then ltI B f (toF B L f - f).toNat else 0) else 0
theorem and255F : ∀ n : Fin 256, J ((n : Int) - 128) &&& (255 : Int32) = J (((n : Int) - 128) % 256) := by decide +kernel
theorem and255 {z : Int} (h0 : -128 ≤ z) (h1 : z ≤ 127) : J z &&& (255 : Int32) = J (z % 256) := by
  have := and255F ⟨(z + 128).toNat, by omega⟩
  rw [show (((⟨(z + 128).toNat, by omega⟩ : Fin 256) : Nat) : Int) - 128 = z by show (((z + 128).toNat : Nat) : Int) - 128 = z; omega] at this
  exact this
section RK
variable {h : Hp} {o : Nat} {B : Int → Int} {L : Int}
theorem RP.tag (H : RP h o B L) : hTag h o = 12 := H.1.1
theorem RP.frame {A : Nat → Nat → Prop} {h' : Hp} (H : RP h o B L) (F : FR A h h') (n1 : ¬ A o 10) (n2 : ∀ k, ¬ A (o + 1) k) : RP h' o B L := by
  obtain ⟨c1, c2, c3, c4⟩ := H
  exact ⟨by rw [F.1]; exact c1, c2, by rw [F.e n1, c3], fun k k0 k1 => by rw [F.e (n2 _), c4 k k0 k1]⟩
theorem RP.frk {h' : Hp} (H : RP h o B L) (F : FR (ARk o) h h') : RP h' o B L := by
  refine H.frame F ?_ (fun k => ?_) <;> · unfold ARk; omega
theorem RP.fI (H : RP h o B L) {k : Nat} : gfI h o 12 k = some (J (hE h o k)) := gfI_ok H.tag
theorem RP.fJ (H : RP h o B L) : gfJ h o 12 14 = some (hL h o 14) := by
  unfold gfJ
  rw [if_pos (show hTag h o = 12 from H.1.1)]
  rfl
theorem RP.pI (H : RP h o B L) {k : Nat} {z : Int} : pfI h o 12 k (J z) = some (wE h o k z) := pfI_ok H.tag
theorem RP.pJ (H : RP h o B L) {x : Int64} : pfJ h o 12 14 x = some (wJ h o 14 x) := by
  unfold pfJ
  rw [if_pos (show hTag h o = 12 from H.1.1)]
  rfl
theorem RP.see (H : RP h o B L) {p : Int} (hp : hE h o 9 = p) (p0 : 0 ≤ p) : m_X12_see o h = some (J (seF B L p)) := by
  have hL := H.2.1
  have hL2 := hL.2.1
  have hr := hE_rg h o 9
  rw [hp] at hr
  have e9 : gfI h o 12 9 = some (J p) := by rw [H.fI]; exact congrArg (fun z => some (J z)) hp
  have e10 : gfI h o 12 10 = some (J L) := by rw [H.fI]; exact congrArg (fun z => some (J z)) H.2.2.1
  have r1 : gfR h o 12 1 = some (o + 1) := gfR_ok H.1.1 H.1.2.2.2.2.2.2.2.2.2.2.2.2.2.2.2.1.1
  unfold seF
  have h0 : 0 ≤ L := hL.1
  by_cases c : L ≤ p
  · rw [if_pos c]
    simp (disch := omega) only [m_X12_see, j_X12_see_28, e9, e10, lm8, lm2, lm1, l0, l1, l2, l3, l4, l5, l6, l7, l8, l9, l10, l11, l12, l13, l14, l15, l16, l17, l18, l19, l20, l21, l22, l23, l24, l25, l27, l31, l32, l40, l46, l48, l50, l57, l59, l63, l86, l96, l97, l100, l110, l114, l122, l127, l200, l255, l300, l319, l320, l340, l441, l456, l580, l600, l800, l886, l1206, l1526, J_add, J_sub, J_mul, J_neg, J_lt, J_le, J_eq, jT, jF, iT, iF, eT, eF, aT, aF, ite_true, ite_false, ite_not, bs, lm1]
  · rw [if_neg c]
    have hB := hL.2.2 p p0 (by omega)
    have e1 : alB h (o + 1) (J p) = some (J (B p)) := by rw [alB_ok H.1.a1 p0 (by omega) (by omega), H.2.2.2 p p0 (by omega)]
    rw [← and255 hB.1 hB.2]
    simp (disch := omega) only [m_X12_see, j_X12_see_28, e9, e10, r1, e1, J_le, iF, bs]
theorem frR {k : Nat} {z : Int} (hk : k = 9 ∨ k = 11 ∨ k = 12 ∨ k = 13 ∨ k = 14) : FR (ARk o) h (wE h o k z) := FR.wE (A := ARk o) (show ARk o o ((k : Int)).toNat from ⟨rfl, by omega⟩)
theorem frJ {x : Int64} : FR (ARk o) h (wJ h o 14 x) := FR.wJ (A := ARk o) (show ARk o o ((14 : Int)).toNat from ⟨rfl, by decide⟩)
/-- blanks passed -/
theorem RP.skip (H : RP h o B L) {i : Int} (hi : hE h o 9 = i) (i0 : 0 ≤ i) (i1 : i ≤ L) (K : Hp → Option Hp) : ∃ h', l_X12_token_0 o K h = K h' ∧ FR (ARk o) h h' ∧ hE h' o 9 = frF B L i := by
  have hL := H.2.1
  have hL2 := hL.2.1
  obtain ⟨s1, s2, s3, s4⟩ := adv_spec (fun k => blB (B k)) i1
  unfold frF
  generalize hn : adv (fun k => blB (B k)) L i = n at *
  obtain ⟨h1, ⟨F1, e1⟩, el⟩ := loop_ex (body := fun (k : Hp → Option Hp) (s : Hp) => b_X12_token_0 o K (fun hq => k hq) s) (s := h) (fun j s => FR (ARk o) h s ∧ hE s o 9 = i + j) (fun s => K s) (n - i) (by omega) (by omega) ⟨FR.refl _ _, by rw [hi, Int.add_zero]⟩ (by
    rintro k j s j0 j1 ⟨F, e⟩
    have H' := H.frk F
    have hB := hL.2.2 (i + j) (by omega) (by omega)
    have hP := s3 (i + j) (by omega) (by omega)
    unfold blB at hP
    have hP2 := of_decide_eq_true hP
    have e9 : gfI s o 12 9 = some (J (i + j)) := by rw [H'.fI]; exact congrArg (fun z => some (J z)) e
    have es := H'.see (p := i + j) e (by omega)
    unfold seF at es
    rw [if_neg (by omega)] at es
    have p9 : pfI s o 12 9 (J (i + j + 1)) = some (wE s o 9 (i + j + 1)) := H'.pI
    refine ⟨wE s o 9 (i + j + 1), ⟨F.trans (frR (k := 9) (by omega)), ?_⟩, ?_⟩
    · rw [hE_wE (by omega) (by omega) (by omega) (by omega), if_pos ⟨rfl, rfl⟩]
      omega
    · show b_X12_token_0 o K (fun hq => k hq) s = _
      rcases hP2 with c | c
      · rw [c, show (10 : Int) % 256 = 10 by decide] at es
        simp (disch := omega) only [b_X12_token_0, j_X12_token_18, rc_ok H'.tag, es, e9, p9, lm8, lm2, lm1, l0, l1, l2, l3, l4, l5, l6, l7, l8, l9, l10, l11, l12, l13, l14, l15, l16, l17, l18, l19, l20, l21, l22, l23, l24, l25, l27, l31, l32, l40, l46, l48, l50, l57, l59, l63, l86, l96, l97, l100, l110, l114, l122, l127, l200, l255, l300, l319, l320, l340, l441, l456, l580, l600, l800, l886, l1206, l1526, J_add, J_sub, J_mul, J_neg, J_lt, J_le, J_eq, jT, jF, iT, iF, eT, eF, aT, aF, ite_true, ite_false, ite_not, bs]
      · rw [c, show (32 : Int) % 256 = 32 by decide] at es
        simp (disch := omega) only [b_X12_token_0, j_X12_token_18, rc_ok H'.tag, es, e9, p9, lm8, lm2, lm1, l0, l1, l2, l3, l4, l5, l6, l7, l8, l9, l10, l11, l12, l13, l14, l15, l16, l17, l18, l19, l20, l21, l22, l23, l24, l25, l27, l31, l32, l40, l46, l48, l50, l57, l59, l63, l86, l96, l97, l100, l110, l114, l122, l127, l200, l255, l300, l319, l320, l340, l441, l456, l580, l600, l800, l886, l1206, l1526, J_add, J_sub, J_mul, J_neg, J_lt, J_le, J_eq, jT, jF, iT, iF, eT, eF, aT, aF, ite_true, ite_false, ite_not, bs]) (by
    rintro k s ⟨F, e⟩
    have H' := H.frk F
    have es := H'.see (p := n) (by omega) (by omega)
    show b_X12_token_0 o K (fun hq => k hq) s = _
    unfold seF at es
    by_cases c : n < L
    · rw [if_neg (by omega)] at es
      have hB := hL.2.2 n (by omega) (by omega)
      have hP := s4 c
      unfold blB at hP
      have hP2 := of_decide_eq_false hP
      have c1 : B n % 256 < 10 ∨ 10 < B n % 256 := by omega
      have c2 : B n % 256 < 32 ∨ 32 < B n % 256 := by omega
      simp (disch := omega) only [b_X12_token_0, rc_ok H'.tag, es, lm8, lm2, lm1, l0, l1, l2, l3, l4, l5, l6, l7, l8, l9, l10, l11, l12, l13, l14, l15, l16, l17, l18, l19, l20, l21, l22, l23, l24, l25, l27, l31, l32, l40, l46, l48, l50, l57, l59, l63, l86, l96, l97, l100, l110, l114, l122, l127, l200, l255, l300, l319, l320, l340, l441, l456, l580, l600, l800, l886, l1206, l1526, J_add, J_sub, J_mul, J_neg, J_lt, J_le, J_eq, jT, jF, iT, iF, eT, eF, aT, aF, ite_true, ite_false, ite_not, bs]
    · rw [if_pos (by omega)] at es
      simp (disch := omega) only [b_X12_token_0, rc_ok H'.tag, es, lm8, lm2, lm1, l0, l1, l2, l3, l4, l5, l6, l7, l8, l9, l10, l11, l12, l13, l14, l15, l16, l17, l18, l19, l20, l21, l22, l23, l24, l25, l27, l31, l32, l40, l46, l48, l50, l57, l59, l63, l86, l96, l97, l100, l110, l114, l122, l127, l200, l255, l300, l319, l320, l340, l441, l456, l580, l600, l800, l886, l1206, l1526, J_add, J_sub, J_mul, J_neg, J_lt, J_le, J_eq, jT, jF, iT, iF, eT, eF, aT, aF, ite_true, ite_false, ite_not, bs])
  exact ⟨h1, el, F1, by rw [e1]; omega⟩
theorem le_in {z : Int} (h0 : -128 ≤ z) (h1 : z ≤ 127) : m_X12_in (J (z % 256)) (J 97) (J 122) h = some (J (b01 (leB z))) := by
  unfold leB
  by_cases c : 97 ≤ z ∧ z ≤ 122
  · rw [decide_eq_true c, X12_in_T (by omega) (by omega) (by omega)]
    rfl
  · rw [decide_eq_false c, X12_in_F (by omega) (by omega) (by omega) (by omega)]
    rfl
theorem di_in {z : Int} (h0 : -128 ≤ z) (h1 : z ≤ 127) : m_X12_in (J (z % 256)) (J 48) (J 57) h = some (J (b01 (diB z))) := by
  unfold diB
  by_cases c : 48 ≤ z ∧ z ≤ 57
  · rw [decide_eq_true c, X12_in_T (by omega) (by omega) (by omega)]
    rfl
  · rw [decide_eq_false c, X12_in_F (by omega) (by omega) (by omega) (by omega)]
    rfl
/-- letters taken -/
theorem RP.letters (H : RP h o B L) {f : Int} (hf : hE h o 9 = f) (h14 : hL h o 14 = 0) (f0 : 0 ≤ f) (f1 : f ≤ L) (K : Int32 → Hp → Option Hp) : ∃ h', l_X12_token_74 o K (J 0) h = K (J (adv (fun k => leB (B k)) L f - f)) h' ∧ FR (fun b k => b = o ∧ (k = 9 ∨ k = 14)) h h' ∧ hE h' o 9 = adv (fun k => leB (B k)) L f ∧ hL h' o 14 = ltI B f (adv (fun k => leB (B k)) L f - f).toNat := by
  have hW := H.2.1
  have hW2 := hW.2.1
  obtain ⟨s1, s2, s3, s4⟩ := adv_spec (fun k => leB (B k)) f1
  generalize hn : adv (fun k => leB (B k)) L f = n at *
  have sub : ∀ b k, (b = o ∧ (k = 9 ∨ k = 14)) → ARk o b k := fun b k q => ⟨q.1, by omega⟩
  obtain ⟨s, ⟨h1, rfl, F1, e1, e2⟩, el⟩ := loop_ex (body := fun (k : Int32 × Hp → Option Hp) (s : Int32 × Hp) => b_X12_token_74 o K (fun v2q hq => k (v2q, hq)) s.1 s.2) (s := (J 0, h)) (fun j s => ∃ g, s = (J j, g) ∧ FR (fun b k => b = o ∧ (k = 9 ∨ k = 14)) h g ∧ hE g o 9 = f + j ∧ hL g o 14 = ltI B f j.toNat) (fun s => K (J (n - f)) s.2) (n - f) (by omega) (by omega) ⟨h, rfl, FR.refl _ _, by rw [hf, Int.add_zero], h14⟩ (by
    rintro k j s j0 j1 ⟨g, rfl, F, e, el⟩
    have H' := H.frk (F.mono sub)
    have hB := hW.2.2 (f + j) (by omega) (by omega)
    have hP := s3 (f + j) (by omega) (by omega)
    have hP' : leB (B (f + j)) = true := hP
    have hP2 : 97 ≤ B (f + j) ∧ B (f + j) ≤ 122 := by unfold leB at hP'; exact of_decide_eq_true hP'
    have e9 : gfI g o 12 9 = some (J (f + j)) := by rw [H'.fI]; exact congrArg (fun z => some (J z)) e
    have es := H'.see (p := f + j) e (by omega)
    unfold seF at es
    rw [if_neg (by omega)] at es
    have ein := le_in (h := g) hB.1 hB.2
    rw [hP'] at ein
    rw [show B (f + j) % 256 = B (f + j) by omega] at es ein
    have e14 := H'.fJ
    rw [el] at e14
    generalize hX : (lshlF (ltI B f j.toNat) (J 8) ||| Int32.toInt64 (J (B (f + j)))) = X
    have pj : pfJ g o 12 14 X = some (wJ g o 14 X) := H'.pJ
    have H2 : RP (wJ g o 14 X) o B L := H'.frk frJ
    have e9' : gfI (wJ g o 14 X) o 12 9 = some (J (f + j)) := by rw [H2.fI]; exact congrArg (fun z => some (J z)) e
    have p9 : pfI (wJ g o 14 X) o 12 9 (J (f + j + 1)) = some (wE (wJ g o 14 X) o 9 (f + j + 1)) := H2.pI
    refine ⟨(J (j + 1), wE (wJ g o 14 X) o 9 (f + j + 1)), ⟨_, rfl, (F.trans (FR.wJ (A := fun b k => b = o ∧ (k = 9 ∨ k = 14)) ⟨rfl, Or.inr rfl⟩)).trans (FR.wE (A := fun b k => b = o ∧ (k = 9 ∨ k = 14)) ⟨rfl, Or.inl rfl⟩), ?_, ?_⟩, ?_⟩
    · rw [hE_wE (by omega) (by omega) (by omega) (by omega), if_pos ⟨rfl, rfl⟩]
      omega
    · rw [hL_wE, hL_wJ (by omega) (by omega), if_pos ⟨rfl, rfl⟩, show (j + 1).toNat = j.toNat + 1 by omega, ← hX]
      show _ = lshlF (ltI B f j.toNat) (J 8) ||| Int32.toInt64 (J (B (f + (j.toNat : Int))))
      rw [show ((j.toNat : Nat) : Int) = j by omega]
    · show b_X12_token_74 o K (fun v2q hq => k (v2q, hq)) (J j) g = _
      have ein' : m_X12_in (J (B (f + j))) (97 : Int32) (122 : Int32) g = some (J (b01 true)) := ein
      have hX' : (lshlF (ltI B f j.toNat) (8 : Int32) ||| Int32.toInt64 (J (B (f + j)))) = X := hX
      simp (disch := omega) only [b_X12_token_74, rc_ok H'.tag, es, ein', bI, cond_true, e14, hX', pj, e9', p9, l0, l1, J_add, bs]) (by
    rintro k s ⟨g, rfl, F, e, -⟩
    have H' := H.frk (F.mono sub)
    have es := H'.see (p := n) (by omega) (by omega)
    show b_X12_token_74 o K (fun v2q hq => k (v2q, hq)) (J (n - f)) g = _
    unfold seF at es
    by_cases c : n < L
    · rw [if_neg (by omega)] at es
      have hB := hW.2.2 n (by omega) (by omega)
      have hP : leB (B n) = false := s4 c
      have ein := le_in (h := g) hB.1 hB.2
      rw [hP] at ein
      have ein' : m_X12_in (J (B n % 256)) (97 : Int32) (122 : Int32) g = some (J (b01 false)) := ein
      simp (disch := omega) only [b_X12_token_74, rc_ok H'.tag, es, ein', bI, cond_false, l0, bs]
    · rw [if_pos (by omega)] at es
      have ein' : m_X12_in (J (-1)) (97 : Int32) (122 : Int32) g = some (J 0) := X12_in_F (a := -1) (b := 97) (c := 122) (by omega) (by omega) (by omega) (by omega)
      simp (disch := omega) only [b_X12_token_74, rc_ok H'.tag, es, ein', l0, iT, bs, if_true])
  exact ⟨h1, el, F1, by rw [e1]; omega, e2⟩
end RK
