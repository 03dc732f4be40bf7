/-! PURE PART: a line of an archive, the reference, the rest -/
/-- keyword k begins a line at f -/
def kwQ (B : Int → Int) (L f k : Int) : Bool := decide (ckF B L f = 1) && kwB B f (toF B L f) k
theorem li_is {B : Int → Int} {L s f k : Int} (k0 : 0 ≤ k) (k1 : k < 15) (hs : soK k = s) (hq : kwQ B L f k = true) (hn : ∀ j, 0 ≤ j → j < k → soK j = s → kwQ B L f j = false) : liK B L s f = k := by
  unfold liK kiF
  refine fiZ_eq k0 k1 ?_ (fun j j0 j1 => ?_)
  · show (decide (soK k = s) && kwQ B L f k) = true
    rw [hq, decide_eq_true hs]
    rfl
  · show (decide (soK j = s) && kwQ B L f j) = false
    by_cases q : soK j = s
    · rw [hn j j0 j1 q, Bool.and_false]
    · rw [decide_eq_false q, Bool.false_and]
theorem li_no {B : Int → Int} {L s f : Int} (hn : ∀ j, 0 ≤ j → j < 15 → soK j = s → kwQ B L f j = false) : liK B L s f = -1 := by
  unfold liK kiF
  refine fiZ_none (fun j j0 j1 => ?_)
  show (decide (soK j = s) && kwQ B L f j) = false
  by_cases q : soK j = s
  · rw [hn j j0 j1 q, Bool.and_false]
  · rw [decide_eq_false q, Bool.false_and]
theorem cmp_kw {B : Int → Int} {L0 f : Int} {k : Int} (k0 : 0 ≤ k) (k1 : k < 15) (f1 : f ≤ L0) {c : Int64} (hc : c = L (kwV k)) : (lg_cmp (ltF B L0 f) c = 0) = (kwQ B L0 f k = true) := by
  rw [hc, lt_kw k0 k1 f1]
  unfold kwQ
  rw [Bool.and_eq_true, decide_eq_true_iff]
theorem kwv {k : Nat} (hk : k < 15) {n : Nat} (h : [123593897898853, 1852137842, 1835101817, 7237492, 1702258034, 7234935, 6385252, 28530, 6582115, 7370100, 6518132, 1836021349, 1650549611, 26990, 7304564].getD k 0 = n) : kwV ((k : Nat) : Int) = n := by
  have := kwV_eq ⟨k, hk⟩
  rw [← h]
  exact this
/-- a line's outcome on the side of the reference: x is 0 where it is wrong; of a right one what its items leave -/
def RXx (h0 h : Hp) (o : Nat) (B : Int → Int) (L s f : Int) (x : Int) (D : Int → Hp → Prop) : Prop := (x = 0 ∧ loF B L s f = 1 ∧ FR (Arl o) h0 h ∧ hE h o 15 = leF B L s f) ∨ (x = 1 ∧ (0 ≤ liK B L s f ∧ liK B L s f < 15) ∧ miF B L f (liK B L s f) = -1 ∧ FR (Arl o) h0 h ∧ RK h o B L (leF B L s f) ∧ D (liK B L s f) h)
section RAr
variable {h h0 : Hp} {o : Nat} {B : Int → Int} {L f k E dt : Int} {T : Int → Int}
theorem RK.docLine (K : RK h o B L f) (H : RP h o B L) (HT : RT h o T) (e : ENr h o E) (h22 : hE h o 22 = 1) (h21 : hE h o 21 = 0) (h23 : hE h o 23 = dt) (f0 : 0 ≤ f) (fl : f < L) (h5 : LnW B L f 8 → nwF B L f 8 ≤ 20 → T 5 + nwF B L f 8 ≤ 319) : ∃ x h', m_X12_docLine o (J f) h = some (J x, h') ∧ RAx h h' o B L T f 8 E dt x := by
  have hL := H.2.1.2.1
  have h0' := HT.2.1.n0
  have W : LnW B L f 8 := ⟨⟨f0, by omega, hL⟩, ⟨by omega, by omega⟩, (mi_all (fun j j0 j1 => by
    have : shL 8 = 0 := rfl
    omega)).1⟩
  have t0 : alI h (o + 9) (J 0) = some (J (T 0)) := HT.told (by omega) (by omega)
  have e9 : e2n B L f 8 0 = 9999 := rfl
  have eA : elA B L T f 8 = min (e2w B L f 8) (min (if 4 ≤ T 0 then 8 * f + 3 else 9999) (e3w B L f 8 20)) := by
    have q : elA B L T f 8 = min (min (e2n B L f 8 0) (e2w B L f 8)) (min (if 4 ≤ T 0 then 8 * f + 3 else 9999) (e3w B L f 8 20)) := by
      unfold elA eFA eWA
      rw [if_pos rfl, if_pos rfl]
    have := e2w_le W
    rw [q, e9, show min 9999 (e2w B L f 8) = e2w B L f 8 by omega]
  have nw0 : 0 ≤ nwF B L f 8 := by
    have := ex_spec (B := B) (k := 8) W.1.2.2 W.1.1 W.1.2.1
    have q : nwF B L f 8 = wCk 8 + exF B L f 8 := rfl
    have q2 : wCk 8 = 0 := rfl
    omega
  have rest : ∀ (g : Hp) (X : Int), FR (Afr o) h g → ENr g o X → X = min E (if 4 ≤ T 0 then 8 * f + 3 else 9999) → ∃ h', j_X12_docLine_16 o g = some (J 1, h') ∧ RAx h h' o B L T f 8 E dt 1 := fun g X F G hX => by
    have Fa : FR (Ard o) h g := F.mono (fun b k q => by unfold Afr at q; unfold Ard; omega)
    have Hg := H.ata Fa
    obtain ⟨g1, e1, F1, K1⟩ := (K.fr F (fun k hk => by unfold Afr; omega)).next Hg f0 (by omega)
    have F1' : FR (Ard o) g g1 := F1.mono (fun b k q => Ard_n q)
    have H1 := Hg.ata F1'
    have up : ∀ k : Int, (k = 21 ∨ k = 22 ∨ k = 23) → hE g1 o k = hE h o k := fun k hk => by
      rw [F1.e (by unfold ARk; omega), F.e (by unfold Afr; omega)]
    have S : RWd g1 g1 o B L f 8 X 1 20 0 := RWd.start K1 (G.frame F1 (by unfold ARk; omega) (by unfold ARk; omega)) (by rw [up 22 (by omega), h22]) (by rw [up 21 (by omega), h21]) (by omega)
    obtain ⟨g2, e2, S2⟩ := S.all H1 W fl rfl (by omega) nw0 (by omega) (by omega)
    have F2' : FR (Ard o) g1 g2 := S2.1.mono (fun b k q => Ard_l q)
    have H2 := H1.ata F2'
    have F02 := (Fa.trans F1').trans F2'
    have T2 := HT.ard F02
    have E2 := S2.2.2.1
    have x2 : e2u B L f 8 (nwF B L f 8) = e2w B L f 8 := rfl
    have x3 : e3u B L f 8 20 (nwF B L f 8) = e3w B L f 8 20 := rfl
    have eX : min X (min (e2u B L f 8 (nwF B L f 8)) (e3u B L f 8 20 (nwF B L f 8))) = min E (elA B L T f 8) := by
      rw [x2, x3, eA, hX]
      generalize (if 4 ≤ T 0 then 8 * f + 3 else 9999) = y
      omega
    rw [eX] at E2
    have K2 : RK g2 o B L (tkI B L f (1 + shL 8 + exF B L f 8)) := by
      have q : wpF B L f 8 (nwF B L f 8) = tkI B L f (1 + shL 8 + exF B L f 8) := by
        unfold wpF nwF
        rw [mo_shL (show moK 8 = true from rfl), show 1 + wOk 8 + (wCk 8 + exF B L f 8) = 1 + (wOk 8 + wCk 8) + exF B L f 8 by omega]
      rw [← q]
      exact S2.2.1
    have hd : j_X12_docLine_16 o g = (gfI g2 o 12 16).bind fun x3 => if ¬ x3 = 0 then (some ((1 : Int32), g2)) else (gfR g2 o 12 18).bind fun x4 => (alI g2 x4 (0 : Int32)).bind fun x5 => (gfR g2 o 12 18).bind fun x6 => (alI g2 x6 (0 : Int32)).bind fun x7 => (asI g2 x6 (0 : Int32) (x7 + (1 : Int32))).bind fun hh1 => (rc hh1 o 12 (m_X12_beginVersion o x5 hh1)).bind fun x8 => l_X12_docLine_57 o x5 (0 : Int32) x8 := by
      unfold j_X12_docLine_16
      rw [rc_ok Hg.tag, e1, bs, rc_ok H1.tag, show (20 : Int32) = J 20 from rfl, e2, bs]
    obtain ⟨s, q1, q2, q3⟩ := E2.is H2.tag
    by_cases c : min E (elA B L T f 8) = 9999
    · have s0 := q3.mpr c
      rw [s0] at q1
      have l1_ : elA B L T f 8 ≤ 9999 := by
        rw [eA]
        have := e2w_le W
        omega
      have GA := elA_ok W HT.2.1 (by omega) (by omega) (show elA B L T f 8 = 9999 by omega)
      have g3 := GA.2.2.1 rfl
      obtain ⟨h', a1, a2, a3⟩ := T2.doc (w := nwF B L f 8) (ws := wnL B L f 8) (dt := dt) g3.1 nw0 g3.2 (h5 W g3.2) (fun i i0 i1 => (W.ok GA.2.1 i0 i1).1) (by rw [F02.e (by unfold Ard; omega), h23]) S2.2.2.2.2.1 (fun i i0 i1 => S2.2.2.2.2.2 i i0 i1 (W.ok GA.2.1 i0 i1).2.2)
      refine ⟨h', ?_, Or.inr ⟨rfl, W.2.2, (F02.mono (fun b k q => Or.inl q)).trans (a2.mono (fun b k q => Or.inr q)), K2.fr a2 (fun k hk => by unfold ATo; omega), E2.frame a2 (by unfold ATo; omega) (by unfold ATo; omega), by rw [if_pos c]; exact a3⟩⟩
      rw [hd, q1, bs, if_neg (fun q => q rfl)]
      exact a1
    · have s0 : ¬ s = 0 := fun q => c (q3.mp q)
      refine ⟨g2, ?_, Or.inr ⟨rfl, W.2.2, F02.mono (fun b k q => Or.inl q), K2, E2, by rw [if_neg c]; exact T2⟩⟩
      rw [hd, q1, bs, if_pos (by rw [show (0 : Int32) = J 0 from rfl, J_eq (by omega) (by omega) (by omega) (by omega)]; exact s0)]
      rfl
  by_cases c : T 0 = 4
  · obtain ⟨g, n1, F1, E1⟩ := e.note H.tag (s' := 3) (p' := f) (by omega) (by omega) (by omega) (by omega)
    obtain ⟨h', a1, a2⟩ := rest g _ F1 E1 (by rw [if_pos (by omega)])
    refine ⟨1, h', ?_, a2⟩
    rw [← a1]
    rw [c] at t0
    simp (disch := omega) only [m_X12_docLine, H.1.r18, t0, rc_ok H.tag, n1, lm8, lm2, lm1, l0, l1, l2, l3, l4, l5, l6, l7, l8, l9, l10, l11, l12, l13, l14, l15, l16, l17, l18, l19, l20, l21, l22, l23, l24, l25, l27, l31, l32, l40, l46, l48, l50, l57, l59, l63, l86, l96, l97, l100, l110, l114, l122, l127, l200, l255, l300, l319, l320, l340, l441, l456, l580, l600, l800, l886, l1206, l1526, J_add, J_sub, J_mul, J_neg, J_lt, J_le, J_eq, jT, jF, iT, iF, eT, eF, aT, aF, ite_true, ite_false, ite_not, bs]
  · have c' : T 0 < 4 ∨ 4 < T 0 := by omega
    have le := e.le
    obtain ⟨h', a1, a2⟩ := rest h _ (FR.refl _ _) e (by rw [if_neg (by omega)]; omega)
    refine ⟨1, h', ?_, a2⟩
    rw [← a1]
    simp (disch := first | omega | exact c') only [m_X12_docLine, H.1.r18, t0, lm8, lm2, lm1, l0, l1, l2, l3, l4, l5, l6, l7, l8, l9, l10, l11, l12, l13, l14, l15, l16, l17, l18, l19, l20, l21, l22, l23, l24, l25, l27, l31, l32, l40, l46, l48, l50, l57, l59, l63, l86, l96, l97, l100, l110, l114, l122, l127, l200, l255, l300, l319, l320, l340, l441, l456, l580, l600, l800, l886, l1206, l1526, J_add, J_sub, J_mul, J_neg, J_lt, J_le, J_eq, jT, jF, iT, iF, eT, eF, aT, aF, ite_true, ite_false, ite_not, bs]
theorem RAx.toX {x : Int} (R : RAx h0 h o B L T f k E dt x) (hk : liK B L 0 f = k) (k0 : 0 ≤ k) (k1 : k < 15) (hc : ckF B L f ≠ 0) : RXx h0 h o B L 0 f x (fun k g => ENr g o (min E (elA B L T f k)) ∧ RT g o (if min E (elA B L T f k) = 9999 then stpA B L T f k dt else T)) := by
  rcases R with ⟨a, b, c, d⟩ | ⟨a, b, c, d, e, i⟩
  · refine Or.inl ⟨a, ?_, c, ?_⟩
    · unfold loF
      rw [if_neg hc, hk, if_neg (by omega), if_neg (fun q => b q.1)]
    · unfold leF
      rw [if_neg hc, hk, if_neg (by omega)]
      exact d
  · have en : enF B L f k = 1 + shL k + exF B L f k := by unfold enF; rw [if_pos b]
    refine Or.inr ⟨a, by omega, by rw [hk]; exact b, c, ?_, by rw [hk]; exact ⟨e, i⟩⟩
    unfold leF
    rw [if_neg hc, hk, if_neg (by omega), en]
    exact d
theorem RK.archiveLine (K : RK h o B L f) (H : RP h o B L) (HT : RT h o T) (e : ENr h o E) (h22 : hE h o 22 = 1) (h21 : hE h o 21 = 0) (h23 : hE h o 23 = dt) (f0 : 0 ≤ f) (fl : f < L) (h5 : ∀ k, LnW B L f k → liK B L 0 f = k → nwF B L f k ≤ 20 → T 5 + nwF B L f k ≤ 319) : ∃ x h', m_X12_archiveLine o (ltF B L f) (J f) h = some (J x, h') ∧ RXx h h' o B L 0 f x (fun k g => ENr g o (min E (elA B L T f k)) ∧ RT g o (if min E (elA B L T f k) = 9999 then stpA B L T f k dt else T)) := by
  have hc : ckF B L f ≠ 0 := fun q => by
    have := (ck_0 (B := B) (L := L) (f := f)).mp q
    omega
  have so : ∀ j, 0 ≤ j → j < 15 → soK j = 0 → j = 8 ∨ j = 9 ∨ j = 10 ∨ j = 11 ∨ j = 12 := fun j j0 j1 q => by
    unfold soK at q
    split at q
    · omega
    · split at q <;> omega
  have c8 : (lg_cmp (ltF B L f) (6582115 : Int64) = 0) = (kwQ B L f 8 = true) := cmp_kw (k := 8) (by omega) (by omega) (by omega) (by rw [show kwV 8 = 6582115 from kwv (k := 8) (by omega) rfl]; rfl)
  have c9 : (lg_cmp (ltF B L f) (7370100 : Int64) = 0) = (kwQ B L f 9 = true) := cmp_kw (k := 9) (by omega) (by omega) (by omega) (by rw [show kwV 9 = 7370100 from kwv (k := 9) (by omega) rfl]; rfl)
  have c10 : (lg_cmp (ltF B L f) (6518132 : Int64) = 0) = (kwQ B L f 10 = true) := cmp_kw (k := 10) (by omega) (by omega) (by omega) (by rw [show kwV 10 = 6518132 from kwv (k := 10) (by omega) rfl]; rfl)
  have c11 : (lg_cmp (ltF B L f) (1836021349 : Int64) = 0) = (kwQ B L f 11 = true) := cmp_kw (k := 11) (by omega) (by omega) (by omega) (by rw [show kwV 11 = 1836021349 from kwv (k := 11) (by omega) rfl]; rfl)
  have c12 : (lg_cmp (ltF B L f) (1650549611 : Int64) = 0) = (kwQ B L f 12 = true) := cmp_kw (k := 12) (by omega) (by omega) (by omega) (by rw [show kwV 12 = 1650549611 from kwv (k := 12) (by omega) rfl]; rfl)
  have cb : m_X12_changeBy o (ltF B L f) h = some (if kwQ B L f 9 = true then J 0 else if kwQ B L f 10 = true then J 1 else if kwQ B L f 11 = true then J 2 else if kwQ B L f 12 = true then J 3 else J (-1)) := by
    unfold m_X12_changeBy j_X12_changeBy_49
    simp only [c9, c10, c11, c12, ite_not]
    rfl
  by_cases q8 : kwQ B L f 8 = true
  · have hk : liK B L 0 f = 8 := li_is (by omega) (by omega) rfl q8 (fun j j0 j1 js => by have := so j j0 (by omega) js; omega)
    obtain ⟨x, h', a1, a2⟩ := K.docLine H HT e h22 h21 h23 f0 fl (fun w => h5 8 w hk)
    refine ⟨x, h', ?_, a2.toX hk (by omega) (by omega) hc⟩
    unfold m_X12_archiveLine j_X12_archiveLine_43
    rw [rc_ok H.tag, cb, bs, if_neg (fun q => q (c8.mpr q8)), rc_ok H.tag, a1, bs]
    have xr : x = 0 ∨ x = 1 := by rcases a2 with ⟨a, _⟩ | ⟨a, _⟩; exact Or.inl a; exact Or.inr a
    rcases xr with q | q <;> rw [q]
    · rw [zb0, bs]
    · rw [zb1, bs]
  · have c8' : ¬ (lg_cmp (ltF B L f) (6582115 : Int64) = 0) := fun q => q8 (c8.mp q)
    have q8f : kwQ B L f 8 = false := by simpa using q8
    have go : ∀ k, 9 ≤ k → k ≤ 12 → liK B L 0 f = k → m_X12_changeBy o (ltF B L f) h = some (J (k - 9)) → ∃ x h', m_X12_archiveLine o (ltF B L f) (J f) h = some (J x, h') ∧ RXx h h' o B L 0 f x (fun k g => ENr g o (min E (elA B L T f k)) ∧ RT g o (if min E (elA B L T f k) = 9999 then stpA B L T f k dt else T)) := fun k k9 k12 hk cb => by
      obtain ⟨x, h', a1, a2⟩ := K.changeLine H HT e h22 h21 h23 f0 (by omega) k9 k12 (fun w => h5 k w hk)
      refine ⟨x, h', ?_, a2.toX hk (by omega) (by omega) hc⟩
      unfold m_X12_archiveLine j_X12_archiveLine_43
      rw [rc_ok H.tag, cb, bs, if_pos c8', if_pos (by rw [show (-1 : Int32) = J (-1) from rfl, J_eq (by omega) (by omega) (by omega) (by omega)]; omega), rc_ok H.tag, a1, bs]
      have xr : x = 0 ∨ x = 1 := by rcases a2 with ⟨a, _⟩ | ⟨a, _⟩; exact Or.inl a; exact Or.inr a
      rcases xr with q | q <;> rw [q]
      · rw [zb0, bs]
      · rw [zb1, bs]
    by_cases q9 : kwQ B L f 9 = true
    · exact go 9 (by omega) (by omega) (li_is (by omega) (by omega) rfl q9 (fun j j0 j1 js => by
        have := so j j0 (by omega) js
        rw [show j = 8 by omega]
        exact q8f)) (by rw [cb, if_pos q9]; rfl)
    · have q9f : kwQ B L f 9 = false := by simpa using q9
      rw [if_neg q9] at cb
      by_cases q10 : kwQ B L f 10 = true
      · exact go 10 (by omega) (by omega) (li_is (by omega) (by omega) rfl q10 (fun j j0 j1 js => by
          have := so j j0 (by omega) js
          have : j = 8 ∨ j = 9 := by omega
          rcases this with q | q <;> rw [q]
          · exact q8f
          · exact q9f)) (by rw [cb, if_pos q10]; rfl)
      · have q10f : kwQ B L f 10 = false := by simpa using q10
        rw [if_neg q10] at cb
        by_cases q11 : kwQ B L f 11 = true
        · exact go 11 (by omega) (by omega) (li_is (by omega) (by omega) rfl q11 (fun j j0 j1 js => by
            have := so j j0 (by omega) js
            have : j = 8 ∨ j = 9 ∨ j = 10 := by omega
            rcases this with q | q | q <;> rw [q]
            · exact q8f
            · exact q9f
            · exact q10f)) (by rw [cb, if_pos q11]; rfl)
        · have q11f : kwQ B L f 11 = false := by simpa using q11
          rw [if_neg q11] at cb
          by_cases q12 : kwQ B L f 12 = true
          · exact go 12 (by omega) (by omega) (li_is (by omega) (by omega) rfl q12 (fun j j0 j1 js => by
              have := so j j0 (by omega) js
              have : j = 8 ∨ j = 9 ∨ j = 10 ∨ j = 11 := by omega
              rcases this with q | q | q | q <;> rw [q]
              · exact q8f
              · exact q9f
              · exact q10f
              · exact q11f)) (by rw [cb, if_pos q12]; rfl)
          · have q12f : kwQ B L f 12 = false := by simpa using q12
            rw [if_neg q12] at cb
            have hk : liK B L 0 f = -1 := li_no (fun j j0 j1 js => by
              have := so j j0 j1 js
              rcases this with q | q | q | q | q <;> rw [q]
              · exact q8f
              · exact q9f
              · exact q10f
              · exact q11f
              · exact q12f)
            obtain ⟨g, a1, F, v⟩ := K.fails H
            refine ⟨0, g, ?_, Or.inl ⟨rfl, ?_, F.mono (fun b k q => Or.inl (Ard_f q)), ?_⟩⟩
            · unfold m_X12_archiveLine j_X12_archiveLine_43
              rw [rc_ok H.tag, cb, bs, if_pos c8', if_neg (fun q => q rfl), rc_ok H.tag, a1, bs, zb0, bs]
            · unfold loF
              rw [if_neg hc, hk, if_pos rfl]
            · unfold leF
              rw [if_neg hc, hk, if_pos rfl]
              exact v
end RAr
