/-! PURE PART: faults as one number (8 times the place and the sort; 9999: none); what can't be -/
def ENc (h : Hp) (r : Nat) (E : Int) : Prop := ∃ s p : Int, hE h r 4 = s ∧ hE h r 5 = p ∧ (0 ≤ s ∧ s ≤ 4) ∧ (s = 0 → p = -1 ∧ E = 9999) ∧ (s ≠ 0 → 0 ≤ p ∧ p ≤ 600 ∧ E = 8 * p + s)
def ENr (h : Hp) (o : Nat) (E : Int) : Prop := ∃ s p : Int, hE h o 16 = s ∧ hE h o 17 = p ∧ (0 ≤ s ∧ s ≤ 4) ∧ (s = 0 → E = 9999) ∧ (s ≠ 0 → 0 ≤ p ∧ p ≤ 600 ∧ E = 8 * p + s)
def Afc (r b k : Nat) : Prop := b = r ∧ (k = 4 ∨ k = 5)
def Afr (o b k : Nat) : Prop := b = o ∧ (k = 16 ∨ k = 17)
section FN
variable {h : Hp} {r o : Nat} {e : Int}
theorem ENc.note (E : ENc h r e) (ht : hTag h r = 7) {s' p' : Int} (s0 : 1 ≤ s') (s1 : s' ≤ 4) (p0 : 0 ≤ p') (p1 : p' ≤ 600) : ∃ h', m_X7_note r (J s') (J p') h = some h' ∧ FR (Afc r) h h' ∧ ENc h' r (min e (8 * p' + s')) := by
  obtain ⟨s, p, hs, hp, sr, e0, e1⟩ := E
  obtain ⟨h', q, F, n1, n2⟩ := X7_note_ok ht hs hp (s' := s') (p' := p') (by omega) (by omega) (by omega) (by omega)
  refine ⟨h', q, F, ?_⟩
  unfold noF at n1 n2
  by_cases c : s = 0 ∨ p' < p ∨ (p' = p ∧ s' < s)
  · rw [if_pos c] at n1 n2
    refine ⟨s', p', n1, n2, by omega, fun q => by omega, fun _ => ⟨p0, p1, ?_⟩⟩
    by_cases c0 : s = 0
    · have := e0 c0
      omega
    · have := e1 c0
      omega
  · rw [if_neg c] at n1 n2
    refine ⟨s, p, n1, n2, sr, fun q => by omega, fun q => ?_⟩
    have := e1 q
    omega
theorem ENr.note (E : ENr h o e) (ht : hTag h o = 12) {s' p' : Int} (s0 : 1 ≤ s') (s1 : s' ≤ 4) (p0 : 0 ≤ p') (p1 : p' ≤ 600) : ∃ h', m_X12_addsFault o (J s') (J p') h = some h' ∧ FR (Afr o) h h' ∧ ENr h' o (min e (8 * p' + s')) := by
  obtain ⟨s, p, hs, hp, sr, e0, e1⟩ := E
  obtain ⟨h', q, F, n1, n2⟩ := X12_addsFault_ok ht hs hp (s' := s') (p' := p') (by omega) (by omega) (by omega) (by omega)
  refine ⟨h', q, F, ?_⟩
  unfold noF at n1 n2
  by_cases c : s = 0 ∨ p' < p ∨ (p' = p ∧ s' < s)
  · rw [if_pos c] at n1 n2
    refine ⟨s', p', n1, n2, by omega, fun q => by omega, fun _ => ⟨p0, p1, ?_⟩⟩
    by_cases c0 : s = 0
    · have := e0 c0
      omega
    · have := e1 c0
      omega
  · rw [if_neg c] at n1 n2
    refine ⟨s, p, n1, n2, sr, fun q => by omega, fun q => ?_⟩
    have := e1 q
    omega
theorem ENc.frame {A : Nat → Nat → Prop} {h' : Hp} (E : ENc h r e) (F : FR A h h') (n4 : ¬ A r 4) (n5 : ¬ A r 5) : ENc h' r e := by
  obtain ⟨s, p, hs, hp, k⟩ := E
  exact ⟨s, p, by rw [F.e n4, hs], by rw [F.e n5, hp], k⟩
theorem ENr.frame {A : Nat → Nat → Prop} {h' : Hp} (E : ENr h o e) (F : FR A h h') (n4 : ¬ A o 16) (n5 : ¬ A o 17) : ENr h' o e := by
  obtain ⟨s, p, hs, hp, k⟩ := E
  exact ⟨s, p, by rw [F.e n4, hs], by rw [F.e n5, hp], k⟩
/-- whether there is a fault -/
theorem ENc.is (E : ENc h r e) (ht : hTag h r = 7) : ∃ s, gfI h r 7 4 = some (J s) ∧ (0 ≤ s ∧ s ≤ 4) ∧ (s = 0 ↔ e = 9999) := by
  obtain ⟨s, p, hs, hp, sr, e0, e1⟩ := E
  refine ⟨s, by rw [gfI_ok ht]; exact congrArg (fun z => some (J z)) hs, sr, ?_⟩
  by_cases c : s = 0
  · have := e0 c
    omega
  · have := e1 c
    omega
theorem ENr.is (E : ENr h o e) (ht : hTag h o = 12) : ∃ s, gfI h o 12 16 = some (J s) ∧ (0 ≤ s ∧ s ≤ 4) ∧ (s = 0 ↔ e = 9999) := by
  obtain ⟨s, p, hs, hp, sr, e0, e1⟩ := E
  refine ⟨s, by rw [gfI_ok ht]; exact congrArg (fun z => some (J z)) hs, sr, ?_⟩
  by_cases c : s = 0
  · have := e0 c
    omega
  · have := e1 c
    omega
theorem ENc.le (E : ENc h r e) : e ≤ 9999 := by
  obtain ⟨s, p, hs, hp, sr, e0, e1⟩ := E
  by_cases c : s = 0
  · have := e0 c
    omega
  · have := e1 c
    omega
theorem ENr.le (E : ENr h o e) : e ≤ 9999 := by
  obtain ⟨s, p, hs, hp, sr, e0, e1⟩ := E
  by_cases c : s = 0
  · have := e0 c
    omega
  · have := e1 c
    omega
end FN
/-- bounds of number j of a line of a kind, own: how many QUESTIONS there are -/
def loV (k j : Int) : Int := if k = 1 ∨ k = 2 ∨ (k = 10 ∧ j = 2) then 1 else 0
def hiV (k own j : Int) : Int := if k = 1 ∨ k = 2 then 9 else if k = 9 then (if j = 0 then 3 else 20) else if k = 10 then (if j = 0 then 3 else if j = 1 then 19 else 20) else if k = 11 then (if j = 0 then 3 else 19) else if 12 ≤ k then (if j = 0 then 3 else 9) else own - 1
def bnE (B : Int → Int) (L f k own j : Int) : Int := if viF B L f k j < loV k j ∨ hiV k own j < viF B L f k j then 8 * vpF B L f k j + 2 else 9999
def bnU (B : Int → Int) (L f k own : Int) : Nat → Int
  | 0 => 9999
  | n + 1 => min (bnU B L f k own n) (bnE B L f k own n)
def e2n (B : Int → Int) (L f k own : Int) : Int := bnU B L f k own (nCk k).toNat
def e2w (B : Int → Int) (L f k : Int) : Int := if msF B L f k (nwF B L f k) = -1 then 9999 else 8 * msF B L f k (nwF B L f k) + 2
def e3w (B : Int → Int) (L f k m : Int) : Int := if m < nwF B L f k then 8 * wpF B L f k m + 3 else 9999
/-- a whole line, as it lies in l -/
def LnP (h : Hp) (l : Nat) (B : Int → Int) (L f k : Int) : Prop := CL h l (nCk k) (nwF B L f k) (viF B L f k) (vpF B L f k) (spL B L f k) (wpF B L f k) ∧ hE h l 0 = k ∧ hE h l 1 = f ∧ hE h l 4 = msF B L f k (nwF B L f k)
/-- a line at f of kind k is whole, to the end of its items -/
def LnW (B : Int → Int) (L f k : Int) : Prop := (0 ≤ f ∧ f ≤ L ∧ L ≤ 600) ∧ (0 ≤ k ∧ k < 15) ∧ miF B L f k = -1
/-- the Reader's shape -/
def TRd (t : Tp) (r : Nat) : Prop := t.1 r = 7 ∧ (t.2.2 r 0 = r + 1 ∧ TLn t (r + 1)) ∧ (t.2.2 r 1 = r + 6 ∧ TA t (r + 6)) ∧ (t.2.2 r 2 = r + 16 ∧ TQ t (r + 16)) ∧ t.2.2 r 3 = r + 21 ∧ TU t (r + 21)
section LQ
variable {h : Hp} {r l : Nat} {B : Int → Int} {L f k e own : Int}
theorem TRd.tag (T : TRd (top h) r) : hTag h r = 7 := T.1
theorem TRd.r0 (T : TRd (top h) r) : gfR h r 7 0 = some (r + 1) := gfR_ok T.1 T.2.1.1
theorem TRd.r1 (T : TRd (top h) r) : gfR h r 7 1 = some (r + 6) := gfR_ok T.1 T.2.2.1.1
theorem TRd.r2 (T : TRd (top h) r) : gfR h r 7 2 = some (r + 16) := gfR_ok T.1 T.2.2.2.1.1
theorem TRd.r3 (T : TRd (top h) r) : gfR h r 7 3 = some (r + 21) := gfR_ok T.1 T.2.2.2.2.1
theorem TRd.fr {A : Nat → Nat → Prop} {h' : Hp} (T : TRd (top h) r) (F : FR A h h') : TRd (top h') r := by rw [F.1]; exact T
theorem LnP.frame {A : Nat → Nat → Prop} {h' : Hp} (P : LnP h l B L f k) (F : FR A h h') (n : ∀ b k, l ≤ b → b ≤ l + 4 → ¬ A b k) : LnP h' l B L f k := by
  obtain ⟨p1, p2, p3, p4⟩ := P
  refine ⟨p1.frame F (fun k => n _ _ (by omega) (by omega)) (fun b k b0 b1 => n _ _ (by omega) (by omega)), ?_, ?_, ?_⟩
  · rw [F.e (n _ _ (by omega) (by omega)), p2]
  · rw [F.e (n _ _ (by omega) (by omega)), p3]
  · rw [F.e (n _ _ (by omega) (by omega)), p4]
theorem LnP.tag (P : LnP h l B L f k) : hTag h l = 5 := P.1.1.1
theorem LnP.f0 (P : LnP h l B L f k) : gfI h l 5 0 = some (J k) := by rw [gfI_ok P.tag]; exact congrArg (fun z => some (J z)) P.2.1
theorem LnP.f1 (P : LnP h l B L f k) : gfI h l 5 1 = some (J f) := by rw [gfI_ok P.tag]; exact congrArg (fun z => some (J z)) P.2.2.1
theorem LnP.f2 (P : LnP h l B L f k) : gfI h l 5 2 = some (J (nCk k)) := by rw [gfI_ok P.tag]; exact congrArg (fun z => some (J z)) P.1.2.2.2.1
theorem LnP.f3 (P : LnP h l B L f k) : gfI h l 5 3 = some (J (nwF B L f k)) := by rw [gfI_ok P.tag]; exact congrArg (fun z => some (J z)) P.1.2.2.2.2.1
theorem LnP.f4 (P : LnP h l B L f k) : gfI h l 5 4 = some (J (msF B L f k (nwF B L f k))) := by rw [gfI_ok P.tag]; exact congrArg (fun z => some (J z)) P.2.2.2
theorem LnP.value (P : LnP h l B L f k) {j : Int} (j0 : 0 ≤ j) (j1 : j < nCk k) : m_X4_value l (J j) h = some (J (viF B L f k j)) := by
  have kr := kk_rg k
  have r5 : gfR h l 5 5 = some (l + 1) := gfR_ok P.1.1.1 P.1.1.2.1.1
  unfold m_X4_value
  rw [r5, bs, X5_at_ok P.1.1.2.1.2 (by omega) (by omega) (by omega), bs, atE_in j0 (by omega), (P.1.2.2.2.2.2.1 j j0 j1).1]
theorem LnP.place (P : LnP h l B L f k) {j : Int} (j0 : 0 ≤ j) (j1 : j < nCk k) : m_X5_at (l + 2) (J j) h = some (J (vpF B L f k j)) := by
  have kr := kk_rg k
  rw [X5_at_ok P.1.1.2.2.1.2 (by omega) (by omega) (by omega), atE_in j0 (by omega), (P.1.2.2.2.2.2.1 j j0 j1).2]
theorem LnW.item (W : LnW B L f k) {i : Int} (i0 : 0 ≤ i) (i1 : i < shL k) : ckF B L (tkI B L f (1 + i)) = cnK k i := by
  rcases mi_spec (B := B) (L := L) (f := f) (k := k) with ⟨e1, e2⟩ | ⟨e1, e2, _⟩
  · exact e2 i i0 i1
  · have := W.2.2
    omega
theorem LnW.num (W : LnW B L f k) {j : Int} (j0 : 0 ≤ j) (j1 : j < nCk k) : (f ≤ vpF B L f k j ∧ vpF B L f k j ≤ 600) ∧ 0 ≤ viF B L f k j ∧ viF B L f k j ≤ 99 := by
  have kr := kk_rg k
  have c := W.item (i := wCk k + j) (by omega) (by omega)
  unfold cnK at c
  rw [if_neg (by omega)] at c
  have t := tk_rg (B := B) (i := 1 + wCk k + j) W.1.2.1 (by omega)
  have h6 := W.1.2.2
  rw [show 1 + (wCk k + j) = 1 + wCk k + j by omega] at c
  have n := ck_num c t.2.1
  unfold viF vpF
  omega
theorem LnW.wrd (W : LnW B L f k) {j : Int} (j0 : 0 ≤ j) (j1 : j < nwF B L f k) : ckF B L (wpF B L f k j) = 1 ∧ f ≤ wpF B L f k j ∧ wpF B L f k j ≤ L := by
  have kr := kk_rg k
  have t := tk_rg (B := B) (i := 1 + wOk k + j) W.1.2.1 (by omega)
  unfold nwF at j1
  unfold wpF
  refine ⟨?_, t.1, t.2.1⟩
  have ex := ex_spec (B := B) (k := k) W.1.2.2 W.1.1 W.1.2.1
  by_cases c : j < wCk k
  · have w0 : wOk k = 0 := by
      unfold wCk at c
      unfold wOk
      split
      · exfalso
        rw [if_neg (by omega), if_neg (by omega), if_neg (by omega)] at c
        omega
      · rfl
    have q := W.item (i := j) j0 (by omega)
    unfold cnK at q
    rw [if_pos c] at q
    rw [w0, show 1 + 0 + j = 1 + j by omega]
    exact q
  · have cm : moK k = true := by
      by_cases q : moK k = true
      · exact q
      · have := ex.2.2.2.2 q
        omega
    have q := ex.2.2.1 (j - wCk k) (by omega) (by omega)
    rw [mo_shL cm, show 1 + (wOk k + wCk k) + (j - wCk k) = 1 + wOk k + j by omega] at q
    exact q
theorem LnW.ms (W : LnW B L f k) : msF B L f k (nwF B L f k) = -1 ∨ (0 ≤ msF B L f k (nwF B L f k) ∧ f ≤ msF B L f k (nwF B L f k) ∧ msF B L f k (nwF B L f k) ≤ 600) := by
  have kr := kk_rg k
  unfold msF
  rcases fiZ_spec (nwF B L f k) (lgB B L f k) with ⟨e1, e2⟩ | ⟨e1, e2, e3, e4⟩
  · rw [if_pos e1]
    exact Or.inl rfl
  · rw [if_neg (by omega)]
    have := W.wrd e1 e2
    have h6 := W.1
    omega
theorem X7_least_ok (T : TRd (top h) r) (P : LnP h (r + 1) B L f k) (W : LnW B L f k) {j : Int} (j0 : 0 ≤ j) (j1 : j < 3) : m_X7_least r (J j) h = some (J (loV k j)) := by
  have k0 := W.2.1.1
  have k1 := W.2.1.2
  unfold loV
  by_cases c1 : k = 1
  · rw [if_pos (Or.inl c1)]
    have e0 := P.f0
    rw [c1] at e0
    simp (disch := omega) only [m_X7_least, j_X7_least_44, j_X7_least_54, T.r0, e0, lm8, lm2, lm1, l0, l1, l2, l3, l4, l5, l6, l7, l8, l9, l10, l11, l12, l13, l14, l15, l16, l17, l18, l19, l20, l21, l22, l23, l24, l25, l27, l31, l32, l40, l46, l48, l50, l57, l59, l63, l86, l96, l97, l100, l110, l114, l122, l127, l200, l255, l300, l319, l320, l340, l441, l456, l580, l600, l800, l886, l1206, l1526, J_add, J_sub, J_mul, J_neg, J_lt, J_le, J_eq, jT, jF, iT, iF, eT, eF, aT, aF, ite_true, ite_false, ite_not, bs]
  · have c1' : k < 1 ∨ 1 < k := by omega
    by_cases c2 : k = 2
    · rw [if_pos (Or.inr (Or.inl c2))]
      have e0 := P.f0
      rw [c2] at e0
      simp (disch := omega) only [m_X7_least, j_X7_least_44, j_X7_least_54, T.r0, e0, lm8, lm2, lm1, l0, l1, l2, l3, l4, l5, l6, l7, l8, l9, l10, l11, l12, l13, l14, l15, l16, l17, l18, l19, l20, l21, l22, l23, l24, l25, l27, l31, l32, l40, l46, l48, l50, l57, l59, l63, l86, l96, l97, l100, l110, l114, l122, l127, l200, l255, l300, l319, l320, l340, l441, l456, l580, l600, l800, l886, l1206, l1526, J_add, J_sub, J_mul, J_neg, J_lt, J_le, J_eq, jT, jF, iT, iF, eT, eF, aT, aF, ite_true, ite_false, ite_not, bs]
    · have c2' : k < 2 ∨ 2 < k := by omega
      by_cases c3 : k = 10
      · have e0 := P.f0
        rw [c3] at e0
        by_cases c4 : j = 2
        · rw [if_pos (Or.inr (Or.inr ⟨c3, c4⟩)), c4]
          simp (disch := omega) only [m_X7_least, j_X7_least_44, j_X7_least_54, T.r0, e0, lm8, lm2, lm1, l0, l1, l2, l3, l4, l5, l6, l7, l8, l9, l10, l11, l12, l13, l14, l15, l16, l17, l18, l19, l20, l21, l22, l23, l24, l25, l27, l31, l32, l40, l46, l48, l50, l57, l59, l63, l86, l96, l97, l100, l110, l114, l122, l127, l200, l255, l300, l319, l320, l340, l441, l456, l580, l600, l800, l886, l1206, l1526, J_add, J_sub, J_mul, J_neg, J_lt, J_le, J_eq, jT, jF, iT, iF, eT, eF, aT, aF, ite_true, ite_false, ite_not, bs]
        · rw [if_neg (by omega)]
          have c4' : j < 2 ∨ 2 < j := by omega
          simp (disch := first | omega | exact c4') only [m_X7_least, j_X7_least_44, j_X7_least_54, T.r0, e0, lm8, lm2, lm1, l0, l1, l2, l3, l4, l5, l6, l7, l8, l9, l10, l11, l12, l13, l14, l15, l16, l17, l18, l19, l20, l21, l22, l23, l24, l25, l27, l31, l32, l40, l46, l48, l50, l57, l59, l63, l86, l96, l97, l100, l110, l114, l122, l127, l200, l255, l300, l319, l320, l340, l441, l456, l580, l600, l800, l886, l1206, l1526, J_add, J_sub, J_mul, J_neg, J_lt, J_le, J_eq, jT, jF, iT, iF, eT, eF, aT, aF, ite_true, ite_false, ite_not, bs]
      · rw [if_neg (by omega)]
        have c3' : k < 10 ∨ 10 < k := by omega
        simp (disch := first | omega | exact c1' | exact c2' | exact c3') only [m_X7_least, j_X7_least_44, j_X7_least_54, T.r0, P.f0, lm8, lm2, lm1, l0, l1, l2, l3, l4, l5, l6, l7, l8, l9, l10, l11, l12, l13, l14, l15, l16, l17, l18, l19, l20, l21, l22, l23, l24, l25, l27, l31, l32, l40, l46, l48, l50, l57, l59, l63, l86, l96, l97, l100, l110, l114, l122, l127, l200, l255, l300, l319, l320, l340, l441, l456, l580, l600, l800, l886, l1206, l1526, J_add, J_sub, J_mul, J_neg, J_lt, J_le, J_eq, jT, jF, iT, iF, eT, eF, aT, aF, ite_true, ite_false, ite_not, bs]
theorem J9_min_ok {a b : Int} (h1 : -2147483648 ≤ a) (h2 : a < 2147483648) (h3 : -2147483648 ≤ b) (h4 : b < 2147483648) : m_J9_min_7cf53 (J a) (J b) h = some (J (min a b)) := by
  unfold m_J9_min_7cf53 j_J9_min_7cf53_10
  by_cases c : b < a
  · rw [if_pos (by rw [J_lt h3 h4 h1 h2]; exact c), show min a b = b by omega]
  · rw [if_neg (by rw [J_lt h3 h4 h1 h2]; exact c), show min a b = a by omega]
theorem X7_most_ok (T : TRd (top h) r) (P : LnP h (r + 1) B L f k) (W : LnW B L f k) (hq : hE h (r + 16) 0 = own) (o0 : 0 ≤ own) (o1 : own ≤ 8) {j : Int} (j0 : 0 ≤ j) (j1 : j < nCk k) : m_X7_most r (J j) h = some (J (hiV k own j)) := by
  have k0 := W.2.1.1
  have k1 := W.2.1.2
  have kr := kk_rg k
  have e0 := P.f0
  have e6 : gfI h (r + 16) 6 0 = some (J own) := by rw [gfI_ok T.2.2.2.1.2.1]; exact congrArg (fun z => some (J z)) hq
  have em : m_J9_min_7cf53 (J 8) (J own) h = some (J own) := by rw [J9_min_ok (by omega) (by omega) (by omega) (by omega), show min (8 : Int) own = own by omega]
  have dj : j = 0 ∨ j = 1 ∨ j = 2 := by omega
  have dk : k = 1 ∨ k = 2 ∨ k = 3 ∨ k = 4 ∨ k = 5 ∨ k = 6 ∨ k = 7 ∨ k = 9 ∨ k = 10 ∨ k = 11 ∨ k = 12 ∨ k = 13 ∨ k = 14 := by
    have : k ≠ 0 := fun q => by rw [q] at j1; simp [nCk] at j1; omega
    have : k ≠ 8 := fun q => by rw [q] at j1; simp [nCk] at j1; omega
    omega
  have em2 : j_X7_most_133 r h = some (J (own - 1)) := by
    unfold j_X7_most_133
    rw [T.r2, bs, e6, bs, show (8 : Int32) = J 8 from rfl, em, bs, show (1 : Int32) = J 1 from rfl, J_sub]
  have hd : ∀ x : Int32, m_X7_most r x h = if J k = (1 : Int32) then (some (9 : Int32)) else if J k = (2 : Int32) then (some (9 : Int32)) else if J k = (3 : Int32) then (j_X7_most_133 r h) else if J k = (4 : Int32) then (j_X7_most_133 r h) else if J k = (5 : Int32) then (j_X7_most_133 r h) else if J k = (6 : Int32) then (j_X7_most_133 r h) else if J k = (7 : Int32) then (j_X7_most_133 r h) else if J k = (8 : Int32) then (j_X7_most_133 r h) else if J k = (9 : Int32) then (j_X7_most_89 (if ¬ x = 0 then (20 : Int32) else (3 : Int32)) h) else if J k = (10 : Int32) then (j_X7_most_110 (if ¬ x = 0 then (if ¬ x = (1 : Int32) then (20 : Int32) else (19 : Int32)) else (3 : Int32)) h) else if J k = (11 : Int32) then (j_X7_most_121 (if ¬ x = 0 then (19 : Int32) else (3 : Int32)) h) else if J k = (12 : Int32) then (j_X7_most_122 x h) else if J k = (13 : Int32) then (j_X7_most_122 x h) else if J k = (14 : Int32) then (j_X7_most_122 x h) else j_X7_most_133 r h := fun x => by
    unfold m_X7_most
    rw [T.r0, bs, e0, bs]
  rw [hd]
  rcases dk with q | q | q | q | q | q | q | q | q | q | q | q | q
  · rw [q]; rfl
  · rw [q]; rfl
  · rw [q]; exact em2
  · rw [q]; exact em2
  · rw [q]; exact em2
  · rw [q]; exact em2
  · rw [q]; exact em2
  · rw [q]; rcases dj with y | y | y <;> rw [y] <;> rfl
  · rw [q]; rcases dj with y | y | y <;> rw [y] <;> rfl
  · rw [q]; rcases dj with y | y | y <;> rw [y] <;> rfl
  · rw [q]; rcases dj with y | y | y <;> rw [y] <;> rfl
  · rw [q]; rcases dj with y | y | y <;> rw [y] <;> rfl
  · rw [q]; rcases dj with y | y | y <;> rw [y] <;> rfl
end LQ
