/-! PURE PART: lines one behind the other; what a text tells, step by step; the class's first walk -/
def lsN (B : Int → Int) (L s : Int) : Nat → Int
  | 0 => frF B L 0
  | n + 1 => nxF B L (leF B L s (lsN B L s n))
def lsI (B : Int → Int) (L s i : Int) : Int := lsN B L s i.toNat
/-- how many whole lines there are ahead of the first other one -/
def nlF (B : Int → Int) (L s : Int) : Int := fiZ 601 (fun n => decide (loF B L s (lsI B L s n) ≠ 2))
/-- fault and content after n lines (fault 9999: none; nothing is told behind a fault) -/
def tyN (el : (Int → Int) → Int → Int → Int) (stp : (Int → Int) → Int → Int → Int → Int → Int) (B : Int → Int) (L s : Int) : Nat → Int × (Int → Int)
  | 0 => (9999, fun _ => 0)
  | n + 1 => if (tyN el stp B L s n).1 = 9999 then (el (tyN el stp B L s n).2 (lsN B L s n) (liK B L s (lsN B L s n)), if el (tyN el stp B L s n).2 (lsN B L s n) (liK B L s (lsN B L s n)) = 9999 then stp (tyN el stp B L s n).2 (lsN B L s n) (liK B L s (lsN B L s n)) n else (tyN el stp B L s n).2) else tyN el stp B L s n
section LL
variable {B : Int → Int} {L s f : Int}
theorem li_rg : liK B L s f = -1 ∨ (0 ≤ liK B L s f ∧ liK B L s f < 15 ∧ soK (liK B L s f) = s) := by
  unfold liK kiF
  rcases fiZ_spec 15 (fun k => decide (soK k = s) && (decide (ckF B L f = 1) && kwB B f (toF B L f) k)) with ⟨e1, _⟩ | ⟨e1, e2, e3, _⟩
  · exact Or.inl e1
  · exact Or.inr ⟨e1, e2, of_decide_eq_true ((Bool.and_eq_true _ _).mp e3).1⟩
theorem lo_rg : loF B L s f = 0 ∨ loF B L s f = 1 ∨ loF B L s f = 2 := by
  unfold loF
  repeat' split
  all_goals omega
/-- a whole line -/
theorem lo_2 (h : loF B L s f = 2) (f0 : 0 ≤ f) (fL : f ≤ L) (hL : L ≤ 600) : LnW B L f (liK B L s f) ∧ soK (liK B L s f) = s ∧ leF B L s f = tkI B L f (1 + shL (liK B L s f) + exF B L f (liK B L s f)) ∧ ckF B L (leF B L s f) = 3 ∧ f ≤ leF B L s f ∧ leF B L s f < L ∧ f < nxF B L (leF B L s f) := by
  unfold loF at h
  unfold leF
  by_cases c0 : ckF B L f = 0
  · rw [if_pos c0] at h
    omega
  · rw [if_neg c0] at h
    rw [if_neg c0]
    by_cases c1 : liK B L s f = -1
    · rw [if_pos c1] at h
      omega
    · rw [if_neg c1] at h
      rw [if_neg c1]
      by_cases c2 : miF B L f (liK B L s f) = -1 ∧ ckF B L (tkI B L f (enF B L f (liK B L s f))) = 3
      · have kr := li_rg (B := B) (L := L) (s := s) (f := f)
        have en : enF B L f (liK B L s f) = 1 + shL (liK B L s f) + exF B L f (liK B L s f) := by unfold enF; rw [if_pos c2.1]
        have er := en_rg (B := B) (k := liK B L s f) fL f0 hL
        have t := tk_rg (B := B) (i := enF B L f (liK B L s f)) fL (by omega)
        have z := ck_0 (B := B) (L := L) (f := tkI B L f (enF B L f (liK B L s f)))
        have n := nx_rg (B := B) t.2.1
        have n2 := n.2.2 (by omega)
        refine ⟨⟨⟨f0, fL, hL⟩, ⟨by omega, by omega⟩, c2.1⟩, by rcases kr with q | q; exact absurd q c1; exact q.2.2, by rw [en], c2.2, t.1, by omega, by omega⟩
      · rw [if_neg c2] at h
        omega
theorem le_rg (f0 : 0 ≤ f) (fL : f ≤ L) (hL : L ≤ 600) : f ≤ leF B L s f ∧ leF B L s f ≤ L := by
  unfold leF
  split
  · omega
  · split
    · omega
    · have er := en_rg (B := B) (k := liK B L s f) fL f0 hL
      have t := tk_rg (B := B) (i := enF B L f (liK B L s f)) fL (by omega)
      exact ⟨t.1, t.2.1⟩
theorem ls_rg (h0 : 0 ≤ L) (hL : L ≤ 600) : ∀ n : Nat, 0 ≤ lsN B L s n ∧ lsN B L s n ≤ L
  | 0 => by
    have := fr_rg (B := B) (L := L) (i := 0) h0
    exact ⟨this.1, this.2⟩
  | n + 1 => by
    have ih := ls_rg h0 hL n
    have l := le_rg (B := B) (s := s) ih.1 ih.2 hL
    have n := nx_rg (B := B) l.2
    show 0 ≤ nxF B L _ ∧ nxF B L _ ≤ L
    omega
theorem ls_far (h0 : 0 ≤ L) (hL : L ≤ 600) : ∀ n : Nat, (∀ j : Nat, j < n → loF B L s (lsN B L s j) = 2) → (n : Int) ≤ lsN B L s n
  | 0, _ => (ls_rg h0 hL 0).1
  | n + 1, h => by
    have ih := ls_far h0 hL n (fun j hj => h j (by omega))
    have r := ls_rg (B := B) (s := s) h0 hL n
    have := (lo_2 (h n (by omega)) r.1 r.2 hL).2.2.2.2.2.2
    have e : lsN B L s (n + 1) = nxF B L (leF B L s (lsN B L s n)) := rfl
    rw [e]
    omega
theorem nl_spec (h0 : 0 ≤ L) (hL : L ≤ 600) : 0 ≤ nlF B L s ∧ nlF B L s ≤ 600 ∧ (∀ i, 0 ≤ i → i < nlF B L s → loF B L s (lsI B L s i) = 2) ∧ loF B L s (lsI B L s (nlF B L s)) ≠ 2 := by
  have far : ∀ n : Int, 0 ≤ n → (∀ i, 0 ≤ i → i < n → loF B L s (lsI B L s i) = 2) → n ≤ lsI B L s n := fun n n0 h => by
    have := ls_far (B := B) (s := s) h0 hL n.toNat (fun j hj => by
      have := h j (by omega) (by omega)
      unfold lsI at this
      rw [Int.toNat_natCast] at this
      exact this)
    unfold lsI
    omega
  unfold nlF
  rcases fiZ_spec 601 (fun n => decide (loF B L s (lsI B L s n) ≠ 2)) with ⟨e1, e2⟩ | ⟨e1, e2, e3, e4⟩
  · exfalso
    have all : ∀ i, 0 ≤ i → i < 601 → loF B L s (lsI B L s i) = 2 := fun i i0 i1 => by
      have := of_decide_eq_false (e2 i i0 i1)
      omega
    have f6 := far 600 (by omega) (fun i i0 i1 => all i i0 (by omega))
    have a := all 600 (by omega) (by omega)
    have r := ls_rg (B := B) (s := s) h0 hL 600
    have z := (ck_0 (B := B) (L := L) (f := lsI B L s 600)).mpr (by omega)
    unfold loF at a
    rw [if_pos z] at a
    omega
  · exact ⟨e1, by omega, fun i i0 i1 => by
      have := of_decide_eq_false (e4 i i0 i1)
      omega, of_decide_eq_true e3⟩
theorem lsI_succ {i : Int} (i0 : 0 ≤ i) : lsI B L s (i + 1) = nxF B L (leF B L s (lsI B L s i)) := by
  unfold lsI
  rw [show (i + 1).toNat = i.toNat + 1 by omega]
  rfl
end LL
/-- where the tape stands ahead of a line -/
def TPa (h : Hp) (a : Nat) (B : Int → Int) (L f : Int) : Prop := ∃ i, hE h a 4 = i ∧ 0 ≤ i ∧ i ≤ L ∧ frF B L i = f
def ARf (r a b k : Nat) : Prop := ARd (r + 1) a b k ∨ Afc r b k
section NT
variable {h : Hp} {r a : Nat} {B : Int → Int} {L s : Int}
theorem CT.rewind (H : CT h a B L) : ∃ h', m_X10_rewind a h = some h' ∧ FR (ATk a) h h' ∧ hE h' a 4 = 0 := by
  have p1 : pfI h a 10 3 (J 0) = some (wE h a 3 0) := pfI_ok H.tag
  have p2 : pfI (wE h a 3 0) a 10 4 (J 0) = some (wE (wE h a 3 0) a 4 0) := pfI_ok H.tag
  have p3 : pfI (wE (wE h a 3 0) a 4 0) a 10 2 (J 0) = some (wE (wE (wE h a 3 0) a 4 0) a 2 0) := pfI_ok H.tag
  have F1 : FR (ATk a) h (wE h a 3 0) := FR.wE (A := ATk a) ⟨rfl, by omega⟩
  have F2 : FR (ATk a) (wE h a 3 0) (wE (wE h a 3 0) a 4 0) := FR.wE (A := ATk a) ⟨rfl, by omega⟩
  have F3 : FR (ATk a) (wE (wE h a 3 0) a 4 0) (wE (wE (wE h a 3 0) a 4 0) a 2 0) := FR.wE (A := ATk a) ⟨rfl, by omega⟩
  refine ⟨_, ?_, (F1.trans F2).trans F3, ?_⟩
  · simp (disch := omega) only [m_X10_rewind, l0, p1, p2, p3, bs]
  · rw [hE_wE (by omega) (by omega) (by omega) (by omega), if_neg (by omega), hE_wE (by omega) (by omega) (by omega) (by omega), if_pos ⟨rfl, rfl⟩]
theorem CT.frf {h' : Hp} (H : CT h a B L) (hal : a + 1 < r ∨ r + 22 < a) (F : FR (ARf r a) h h') : CT h' a B L := by
  refine H.frame F ?_ (fun k => ?_) <;> · unfold ARf ARd ATk Afc; omega
theorem X7_noteNoText_ok (R : TRd (top h) r) (H : CT h a B L) (hal : a + 1 < r ∨ r + 22 < a) (s0 : 0 ≤ s) (s1 : s ≤ 2) (E : ENc h r 9999) : ∃ h', m_X7_noteNoText r a (J s) h = some h' ∧ FR (ARf r a) h h' ∧ ENc h' r (if loF B L s (lsI B L s (nlF B L s)) = 1 then 8 * leF B L s (lsI B L s (nlF B L s)) + 1 else 9999) := by
  have hL := H.2.1
  obtain ⟨g0, e0, F0, z0⟩ := H.rewind
  have F0' : FR (ARf r a) h g0 := F0.mono (fun b k q => Or.inl (Or.inr (Or.inr q)))
  obtain ⟨n0, n1, n2, n3⟩ := nl_spec (B := B) (s := s) hL.1 hL.2.1
  have lr : ∀ i : Int, 0 ≤ lsI B L s i ∧ lsI B L s i ≤ L := fun i => ls_rg hL.1 hL.2.1 _
  generalize hn : nlF B L s = n at *
  obtain ⟨s', hs', el⟩ := loop_ex (body := fun (k_ : Int32 × Int32 × Hp → Option Hp) (s_ : Int32 × Int32 × Hp) => b_X7_noteNoText_9 r a (J s) (fun a2_3 hz2 => j_X7_noteNoText_38 r a a2_3 hz2) (fun v3q v4q hq => k_ (v3q, v4q, hq)) s_.1 s_.2.1 s_.2.2) (s := (J 2, J 0, g0)) (fun i s_ => ∃ g, s_ = (J (if i ≤ n then 2 else loF B L s (lsI B L s n)), J i, g) ∧ FR (ARf r a) h g ∧ FR (ARd (r + 1) a) g0 g ∧ (i ≤ n → TPa g a B L (lsI B L s i)) ∧ (n < i → TP g a B L (leF B L s (lsI B L s n)))) (fun s_ => j_X7_noteNoText_38 r a (J (loF B L s (lsI B L s n))) s_.2.2) (n + 1) (by omega) (by omega) ⟨g0, by rw [if_pos n0], F0', FR.refl _ _, fun _ => ⟨0, z0, by omega, hL.1, rfl⟩, fun q => by omega⟩ (by
    rintro k_ i s_ i0 i1 ⟨g, rfl, F, Fr, t1, -⟩
    obtain ⟨p, p1, p2, p3, p4⟩ := t1 (by omega)
    have R' := R.fr F
    have H' := H.frf hal F
    obtain ⟨g', e, F', tp, -⟩ := CL.read R'.2.1.2 H' (by omega) p1 p2 p3 s0 s1 p4
    refine ⟨(J (loF B L s (lsI B L s i)), J (i + 1), g'), ⟨g', ?_, F.trans (F'.mono (fun b k q => Or.inl q)), Fr.trans F', fun q => ?_, fun q => ?_⟩, ?_⟩
    · by_cases q : i + 1 ≤ n
      · rw [if_pos q, n2 i i0 (by omega)]
      · rw [if_neg q, show i = n by omega]
    · have l2 := lo_2 (n2 i i0 (by omega)) (lr i).1 (lr i).2 hL.2.1
      have t := to_rg (B := B) (f := leF B L s (lsI B L s i)) (le_rg (lr i).1 (lr i).2 hL.2.1).2
      have l := le_rg (B := B) (s := s) (lr i).1 (lr i).2 hL.2.1
      have r0 := (lr i).1
      exact ⟨_, tp.2.2, by omega, t.2.1, (lsI_succ i0).symm⟩
    · rw [show n = i by omega]
      exact tp
    · rw [if_pos (show i ≤ n by omega)]
      show b_X7_noteNoText_9 r a (J s) (fun a2_3 hz2 => j_X7_noteNoText_38 r a a2_3 hz2) (fun v3q v4q hq => k_ (v3q, v4q, hq)) (J 2) (J i) g = _
      simp (disch := omega) only [b_X7_noteNoText_9, R'.r0, rc_ok R'.2.1.2.1, e, lm8, lm2, lm1, l0, l1, l2, l3, l4, l5, l6, l7, l8, l9, l10, l11, l12, l13, l14, l15, l16, l17, l18, l19, l20, l21, l22, l23, l24, l25, l27, l31, l32, l40, l46, l48, l50, l57, l59, l63, l86, l96, l97, l100, l110, l114, l122, l127, l200, l255, l300, l319, l320, l340, l441, l456, l580, l600, l800, l886, l1206, l1526, J_add, J_sub, J_mul, J_neg, J_lt, J_le, J_eq, jT, jF, iT, iF, eT, eF, aT, aF, ite_true, ite_false, ite_not, bs]) (by
    rintro k_ s_ ⟨g, rfl, F, -⟩
    rw [if_neg (by omega)]
    show b_X7_noteNoText_9 r a (J s) (fun a2_3 hz2 => j_X7_noteNoText_38 r a a2_3 hz2) (fun v3q v4q hq => k_ (v3q, v4q, hq)) (J (loF B L s (lsI B L s n))) (J (n + 1)) g = _
    have lo := lo_rg (B := B) (L := L) (s := s) (f := lsI B L s n)
    by_cases c : 600 < n + 1
    · simp (disch := omega) only [b_X7_noteNoText_9, lm8, lm2, lm1, l0, l1, l2, l3, l4, l5, l6, l7, l8, l9, l10, l11, l12, l13, l14, l15, l16, l17, l18, l19, l20, l21, l22, l23, l24, l25, l27, l31, l32, l40, l46, l48, l50, l57, l59, l63, l86, l96, l97, l100, l110, l114, l122, l127, l200, l255, l300, l319, l320, l340, l441, l456, l580, l600, l800, l886, l1206, l1526, J_add, J_sub, J_mul, J_neg, J_lt, J_le, J_eq, jT, jF, iT, iF, eT, eF, aT, aF, ite_true, ite_false, ite_not, bs]
    · have n3' : loF B L s (lsI B L s n) < 2 ∨ 2 < loF B L s (lsI B L s n) := by omega
      simp (disch := first | omega | exact n3') only [b_X7_noteNoText_9, lm8, lm2, lm1, l0, l1, l2, l3, l4, l5, l6, l7, l8, l9, l10, l11, l12, l13, l14, l15, l16, l17, l18, l19, l20, l21, l22, l23, l24, l25, l27, l31, l32, l40, l46, l48, l50, l57, l59, l63, l86, l96, l97, l100, l110, l114, l122, l127, l200, l255, l300, l319, l320, l340, l441, l456, l580, l600, l800, l886, l1206, l1526, J_add, J_sub, J_mul, J_neg, J_lt, J_le, J_eq, jT, jF, iT, iF, eT, eF, aT, aF, ite_true, ite_false, ite_not, bs])
  obtain ⟨g, rfl, F, Fr, -, tp⟩ := hs'
  have tp := tp (by omega)
  have hd : m_X7_noteNoText r a (J s) h = j_X7_noteNoText_38 r a (J (loF B L s (lsI B L s n))) g := by
    unfold m_X7_noteNoText
    rw [rc_ok H.tag, e0, bs]
    exact el
  rw [hd]
  have lo := lo_rg (B := B) (L := L) (s := s) (f := lsI B L s n)
  have E0 : ENc g r 9999 := (E.frame F0 (by unfold ATk; omega) (by unfold ATk; omega)).frame Fr (by unfold ARd ATk; omega) (by unfold ARd ATk; omega)
  by_cases c : loF B L s (lsI B L s n) = 1
  · rw [if_pos c, c]
    have l := le_rg (B := B) (s := s) (lr n).1 (lr n).2 hL.2.1
    have h6 := hL.2.1
    have r0 := (lr n).1
    obtain ⟨g', e1, F1, E1⟩ := E0.note (R.fr F).tag (s' := 1) (p' := leF B L s (lsI B L s n)) (by omega) (by omega) (by omega) (by omega)
    refine ⟨g', ?_, F.trans (F1.mono (fun b k q => Or.inr q)), by rw [show min 9999 (8 * leF B L s (lsI B L s n) + 1) = 8 * leF B L s (lsI B L s n) + 1 by omega] at E1; exact E1⟩
    have e3 := (H.frf hal F).f3 tp.2.1
    simp (disch := omega) only [j_X7_noteNoText_38, e3, rc_ok (R.fr F).tag, e1, lm8, lm2, lm1, l0, l1, l2, l3, l4, l5, l6, l7, l8, l9, l10, l11, l12, l13, l14, l15, l16, l17, l18, l19, l20, l21, l22, l23, l24, l25, l27, l31, l32, l40, l46, l48, l50, l57, l59, l63, l86, l96, l97, l100, l110, l114, l122, l127, l200, l255, l300, l319, l320, l340, l441, l456, l580, l600, l800, l886, l1206, l1526, J_add, J_sub, J_mul, J_neg, J_lt, J_le, J_eq, jT, jF, iT, iF, eT, eF, aT, aF, ite_true, ite_false, ite_not, bs]
  · rw [if_neg c]
    have c' : loF B L s (lsI B L s n) < 1 ∨ 1 < loF B L s (lsI B L s n) := by omega
    refine ⟨g, ?_, F, E0⟩
    simp (disch := first | omega | exact c') only [j_X7_noteNoText_38, lm8, lm2, lm1, l0, l1, l2, l3, l4, l5, l6, l7, l8, l9, l10, l11, l12, l13, l14, l15, l16, l17, l18, l19, l20, l21, l22, l23, l24, l25, l27, l31, l32, l40, l46, l48, l50, l57, l59, l63, l86, l96, l97, l100, l110, l114, l122, l127, l200, l255, l300, l319, l320, l340, l441, l456, l580, l600, l800, l886, l1206, l1526, J_add, J_sub, J_mul, J_neg, J_lt, J_le, J_eq, jT, jF, iT, iF, eT, eF, aT, aF, ite_true, ite_false, ite_not, bs]
end NT
