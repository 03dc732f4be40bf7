/-! PURE PART: drawn archives, the reference -/
def ADr (o b k : Nat) : Prop := (b = o ∧ (k = 21 ∨ k = 35)) ∨ b = o + 9 ∨ b = o + 10 ∨ b = o + 11
/-- the reference draws on T, seed s -/
def RD (h : Hp) (o : Nat) (T : Int → Int) (s dt : Int) : Prop := RT h o T ∧ hE h o 35 = s ∧ hE h o 23 = dt
section DRR
variable {h : Hp} {o : Nat} {T : Int → Int} {s d n dt k p q : Int}
theorem RT.versions (H : RT h o T) {d : Int} (h0 : 0 ≤ d) (h1 : d < 4) : m_X12_versions o (J d) h = some (J (T (1 + d))) := by
  simp (disch := omega) only [m_X12_versions, H.1.r18, lm8, lm2, lm1, l0, l1, l2, l3, l4, l5, l6, l7, l8, l9, l10, l11, l12, l13, l14, l15, l16, l17, l18, l19, l20, l21, l22, l23, l24, l25, l27, l31, l32, l40, l46, l48, l50, l57, l59, l63, l86, l96, l97, l100, l110, l114, l122, l127, l200, l255, l300, l319, l320, l340, l441, l456, l580, l600, l800, l886, l1206, l1526, J_add, J_sub, J_mul, J_neg, J_lt, J_le, J_eq, jT, jF, iT, iF, eT, eF, aT, aF, ite_true, ite_false, ite_not, bs, H.told]
theorem RT.longOf (H : RT h o T) {d v : Int} (h0 : 0 ≤ 10 * d + v) (h1 : 10 * d + v < 40) : m_X12_longOf o (J d) (J v) h = some (J (lnT T d v)) := by
  simp (disch := omega) only [m_X12_longOf, H.1.r18, lm8, lm2, lm1, l0, l1, l2, l3, l4, l5, l6, l7, l8, l9, l10, l11, l12, l13, l14, l15, l16, l17, l18, l19, l20, l21, l22, l23, l24, l25, l27, l31, l32, l40, l46, l48, l50, l57, l59, l63, l86, l96, l97, l100, l110, l114, l122, l127, l200, l255, l300, l319, l320, l340, l441, l456, l580, l600, l800, l886, l1206, l1526, J_add, J_sub, J_mul, J_neg, J_lt, J_le, J_eq, jT, jF, iT, iF, eT, eF, aT, aF, ite_true, ite_false, ite_not, bs, H.told, X12_at_ok, lnT]
theorem RT.tokenAt (H : RT h o T) {d v q : Int} (h0 : 0 ≤ 10 * d + v) (h1 : 10 * d + v < 40) (h2 : 0 ≤ q) (h3 : q < 20) : m_X12_tokenAt o (J d) (J v) (J q) h = some (J (rwT T d v q)) := by
  simp (disch := omega) only [m_X12_tokenAt, H.1.r18, lm8, lm2, lm1, l0, l1, l2, l3, l4, l5, l6, l7, l8, l9, l10, l11, l12, l13, l14, l15, l16, l17, l18, l19, l20, l21, l22, l23, l24, l25, l27, l31, l32, l40, l46, l48, l50, l57, l59, l63, l86, l96, l97, l100, l110, l114, l122, l127, l200, l255, l300, l319, l320, l340, l441, l456, l580, l600, l800, l886, l1206, l1526, J_add, J_sub, J_mul, J_neg, J_lt, J_le, J_eq, jT, jF, iT, iF, eT, eF, aT, aF, ite_true, ite_false, ite_not, bs, H.told, X12_at_ok, rwT]
theorem RT.wordOf (H : RT h o T) {t : Int} (h0 : 0 ≤ t) (h1 : t < 320) : m_X12_wordOf o (J t) h = some (J (wdT T t)) := by
  simp (disch := omega) only [m_X12_wordOf, H.1.r18, lm8, lm2, lm1, l0, l1, l2, l3, l4, l5, l6, l7, l8, l9, l10, l11, l12, l13, l14, l15, l16, l17, l18, l19, l20, l21, l22, l23, l24, l25, l27, l31, l32, l40, l46, l48, l50, l57, l59, l63, l86, l96, l97, l100, l110, l114, l122, l127, l200, l255, l300, l319, l320, l340, l441, l456, l580, l600, l800, l886, l1206, l1526, J_add, J_sub, J_mul, J_neg, J_lt, J_le, J_eq, jT, jF, iT, iF, eT, eF, aT, aF, ite_true, ite_false, ite_not, bs, H.told, wdT]
theorem RT.wordAt (H : RT h o T) {d v q : Int} (hv : ppT T d v q) : m_X12_wordAt o (J d) (J v) (J q) h = some (J (wdT T (rwT T d v q))) := by
  have h1 := H.2.1.vb hv.1
  have h2 := H.2.1.ln hv.1
  have h3 := H.2.1.rw hv
  have h4 := H.2.1.n5
  have h5 := hv.2
  simp (disch := omega) only [m_X12_wordAt, rc_ok H.tag, lm8, lm2, lm1, l0, l1, l2, l3, l4, l5, l6, l7, l8, l9, l10, l11, l12, l13, l14, l15, l16, l17, l18, l19, l20, l21, l22, l23, l24, l25, l27, l31, l32, l40, l46, l48, l50, l57, l59, l63, l86, l96, l97, l100, l110, l114, l122, l127, l200, l255, l300, l319, l320, l340, l441, l456, l580, l600, l800, l886, l1206, l1526, J_add, J_sub, J_mul, J_neg, J_lt, J_le, J_eq, jT, jF, iT, iF, eT, eF, aT, aF, ite_true, ite_false, ite_not, bs, H.tokenAt, H.wordOf]
theorem RT.first (H : RT h o T) (d0 : 0 ≤ d) (d1 : d < 4) : m_X12_firstToken o (J d) h = some (J (fstT T d)) := by
  have n5 := H.2.1.n5
  have n0 := H.2.1.n0
  unfold m_X12_firstToken l_X12_firstToken_2 fstT
  refine loop_find (fun i => J i) (T 5) (fun t => decide (owT T t = d)) (fun r => some (J r)) n5.1 (by omega) rfl (fun k i i0 i1 p => ?_) (fun k i i0 i1 p => ?_) (fun k => ?_)
  · have p' : owT T i ≠ d := of_decide_eq_false p
    have rg := H.2.1.2.2.2.2.2.2.2 i i0 i1
    have e : alI h (o + 9) (J (1206 + i)) = some (J (owT T i)) := H.told (by omega) (by omega)
    show b_X12_firstToken_2 o (J d) h (fun v2q => k v2q) (J i) = _
    simp (disch := omega) only [b_X12_firstToken_2, H.1.r18, H.told (show (0 : Int) ≤ 5 by omega) (by omega), e, lm8, lm2, lm1, l0, l1, l2, l3, l4, l5, l6, l7, l8, l9, l10, l11, l12, l13, l14, l15, l16, l17, l18, l19, l20, l21, l22, l23, l24, l25, l27, l31, l32, l40, l46, l48, l50, l57, l59, l63, l86, l96, l97, l100, l110, l114, l122, l127, l200, l255, l300, l319, l320, l340, l441, l456, l580, l600, l800, l886, l1206, l1526, J_add, J_sub, J_mul, J_neg, J_lt, J_le, J_eq, jT, jF, iT, iF, eT, eF, aT, aF, ite_true, ite_false, ite_not, bs]
  · have p' : owT T i = d := of_decide_eq_true p
    have e : alI h (o + 9) (J (1206 + i)) = some (J (owT T i)) := H.told (by omega) (by omega)
    show b_X12_firstToken_2 o (J d) h (fun v2q => k v2q) (J i) = _
    simp (disch := omega) only [b_X12_firstToken_2, H.1.r18, H.told (show (0 : Int) ≤ 5 by omega) (by omega), e, lm8, lm2, lm1, l0, l1, l2, l3, l4, l5, l6, l7, l8, l9, l10, l11, l12, l13, l14, l15, l16, l17, l18, l19, l20, l21, l22, l23, l24, l25, l27, l31, l32, l40, l46, l48, l50, l57, l59, l63, l86, l96, l97, l100, l110, l114, l122, l127, l200, l255, l300, l319, l320, l340, l441, l456, l580, l600, l800, l886, l1206, l1526, J_add, J_sub, J_mul, J_neg, J_lt, J_le, J_eq, jT, jF, iT, iF, eT, eF, aT, aF, ite_true, ite_false, ite_not, bs]
  · show b_X12_firstToken_2 o (J d) h (fun v2q => k v2q) (J (T 5)) = _
    simp (disch := omega) only [b_X12_firstToken_2, H.1.r18, H.told (show (0 : Int) ≤ 5 by omega) (by omega), lm8, lm2, lm1, l0, l1, l2, l3, l4, l5, l6, l7, l8, l9, l10, l11, l12, l13, l14, l15, l16, l17, l18, l19, l20, l21, l22, l23, l24, l25, l27, l31, l32, l40, l46, l48, l50, l57, l59, l63, l86, l96, l97, l100, l110, l114, l122, l127, l200, l255, l300, l319, l320, l340, l441, l456, l580, l600, l800, l886, l1206, l1526, J_add, J_sub, J_mul, J_neg, J_lt, J_le, J_eq, jT, jF, iT, iF, eT, eF, aT, aF, ite_true, ite_false, ite_not, bs]
theorem RD.tag (D : RD h o T s dt) : hTag h o = 12 := D.1.1.1
theorem RD.frame {A : Nat → Nat → Prop} {h' : Hp} (D : RD h o T s dt) (F : FR A h h') (n9 : ∀ k, ¬ A (o + 9) k) (n35 : ¬ A o 35) (n23 : ¬ A o 23) : RD h' o T s dt :=
  ⟨⟨by rw [F.1]; exact D.1.1, D.1.2.1, fun k k0 k1 => by rw [F.e (n9 _), D.1.2.2 k k0 k1]⟩, by rw [F.e n35, D.2.1], by rw [F.e n23, D.2.2]⟩
theorem RD.draw (D : RD h o T s dt) (n0 : 0 < n) (n1 : n < 100000) : ∃ g, m_X12_draw o (J n) h = some (J (dwV (dwN s) n), g) ∧ FR (fun b k => b = o ∧ k = 35) h g ∧ RD g o T (dwN s) dt := by
  have f2 : gfI h o 12 35 = some (J s) := by
    rw [gfI_ok D.tag]
    exact congrArg (fun z => some (J z)) D.2.1
  have p2 : pfI h o 12 35 (J (dwN s)) = some (wE h o 35 (dwN s)) := pfI_ok (k := 35) D.tag
  have F : FR (fun b k => b = o ∧ k = 35) h (wE h o 35 (dwN s)) := FR.wE (A := fun b k => b = o ∧ k = 35) ⟨rfl, rfl⟩
  have e : hE (wE h o 35 (dwN s)) o 35 = dwN s := by rw [hE_wE (by omega) (by omega) (dwN_rg s).1 (dwN_rg s).2, if_pos ⟨rfl, rfl⟩]
  generalize wE h o 35 (dwN s) = g at *
  have tg : hTag g o = 12 := by rw [F.tag]; exact D.tag
  have f3 : gfI g o 12 35 = some (J (dwN s)) := by
    rw [gfI_ok tg]
    exact congrArg (fun z => some (J z)) e
  have rm : rmI (iushrF (J (dwN s)) (16 : Int32)) (J n) = some (J (dwV (dwN s) n)) := by
    unfold rmI
    rw [if_neg (show ¬ J n = 0 by rw [show (0 : Int32) = J 0 from rfl, J_eq (by omega) (by omega) (by omega) (by omega)]; omega), dwV_J]
  refine ⟨g, ?_, F, ⟨by rw [F.1]; exact D.1.1, D.1.2.1, fun k k0 k1 => by rw [F.e (by omega), D.1.2.2 k k0 k1]⟩, e, by rw [F.e (by omega), D.2.2]⟩
  unfold m_X12_draw
  rw [f2, bs, dwN_J, p2, bs, f3, bs, rm, bs]
/-- what a version made leaves -/
theorem RD.made {h' : Hp} {T' : Int → Int} (D : RD h o T s dt) (F : FR (ATo o) h h') (R : RT h' o T') : RD h' o T' s dt :=
  ⟨R, by rw [F.e (fun q => by unfold ATo at q; omega), D.2.1], by rw [F.e (fun q => by unfold ATo at q; omega), D.2.2]⟩
theorem ATo_ADr {b k : Nat} (q : ATo o b k) : ADr o b k := Or.inr (Or.inl q)
/-- full already -/
theorem RD.makesNo (D : RD h o T s dt) (d0 : 0 ≤ d) (d1 : d < T 0) (c0 : hE h (o + 10) 0 = d) (c : 10 ≤ T (1 + d)) {k : Int32} : m_X12_makes o k h = some h := by
  have n0 := D.1.2.1.n0
  obtain ⟨hv, hl, hn⟩ := D.1.2.1.last d0 d1
  have a0 : alI h (o + 10) (J 0) = some (J d) := by rw [alI_ok D.1.1.a19 (by omega) (by omega) (by omega), c0]
  have a0' : alI h (o + 10) (0 : Int32) = some (J d) := a0
  unfold m_X12_makes
  rw [D.1.1.r19, bs, a0', bs, rc_ok D.tag, D.1.versions d0 (by omega), bs, if_pos (show (10 : Int32) ≤ J (T (1 + d)) by rw [show (10 : Int32) = J 10 from rfl, J_le (by omega) (by omega) (by omega) (by omega)]; exact c)]
/-- a version of kind 1, 2 or 3 -/
theorem RD.makes (D : RD h o T s dt) (d0 : 0 ≤ d) (d1 : d < T 0) (c0 : hE h (o + 10) 0 = d) (c : ¬ 10 ≤ T (1 + d)) (k0 : 1 ≤ k) (k1 : k ≤ 3) (c1 : hE h (o + 10) 1 = p) (c2 : hE h (o + 10) 2 = q) (p0 : 0 ≤ p) (p1 : p ≤ 100) (q0 : k = 1 ∨ k = 2 → 0 ≤ q ∧ q ≤ 100) (th : thB T k d p q = true) {T' : Int → Int} (mk : ∃ g, m_X12_makeVersion o (J k) h = some g ∧ FR (ATo o) h g ∧ RT g o T') : ∃ g, m_X12_makes o (J k) h = some g ∧ FR (ADr o) h g ∧ RD g o T' s dt := by
  have n0 := D.1.2.1.n0
  obtain ⟨hv, hl, hn⟩ := D.1.2.1.last d0 d1
  obtain ⟨g, e, F, R⟩ := mk
  have a0 : alI h (o + 10) (J 0) = some (J d) := by rw [alI_ok D.1.1.a19 (by omega) (by omega) (by omega), c0]
  have a0' : alI h (o + 10) (0 : Int32) = some (J d) := a0
  have ei := D.1.isThere (c := k) ⟨by omega, k1⟩ c0 c1 c2 d0 d1 p0 p1 q0
  rw [th] at ei
  refine ⟨g, ?_, F.mono (fun b k => ATo_ADr), D.made F R⟩
  unfold m_X12_makes
  rw [D.1.1.r19, bs, a0', bs, rc_ok D.tag, D.1.versions d0 (by omega), bs, if_neg (show ¬ (10 : Int32) ≤ J (T (1 + d)) by rw [show (10 : Int32) = J 10 from rfl, J_le (by omega) (by omega) (by omega) (by omega)]; exact c), rc_ok D.tag, ei, bs, if_neg (show ¬ J (b01 true) = 0 by decide), if_pos (show ¬ J k = 0 by rw [show (0 : Int32) = J 0 from rfl, J_eq (by omega) (by omega) (by omega) (by omega)]; omega)]
  unfold j_X12_makes_54
  rw [rc_ok D.tag, e, bs]
/-- a version of kind 0 -/
theorem RD.makes0 (D : RD h o T s dt) (d0 : 0 ≤ d) (d1 : d < T 0) (c0 : hE h (o + 10) 0 = d) (c : ¬ 10 ≤ T (1 + d)) (c1 : hE h (o + 10) 1 = p) (p0 : 0 ≤ p) (p1 : p ≤ lnT T d (T (1 + d) - 1)) {T' : Int → Int} (mk : ¬ 20 ≤ lnT T d (T (1 + d) - 1) → ∃ g, m_X12_makeVersion o (J 0) h = some g ∧ FR (ATo o) h g ∧ RT g o T') : ∃ g, m_X12_makes o (J 0) h = some g ∧ FR (ADr o) h g ∧ RD g o (if 20 ≤ lnT T d (T (1 + d) - 1) then T else T') s dt := by
  have n0 := D.1.2.1.n0
  obtain ⟨hv, hl, hn⟩ := D.1.2.1.last d0 d1
  have a0 : alI h (o + 10) (J 0) = some (J d) := by rw [alI_ok D.1.1.a19 (by omega) (by omega) (by omega), c0]
  have a0' : alI h (o + 10) (0 : Int32) = some (J d) := a0
  have th : thB T 0 d p 0 = true := by
    unfold thB
    rw [if_pos rfl]
    exact decide_eq_true p1
  have c2 : hE h (o + 10) 2 = hE h (o + 10) 2 := rfl
  have ei := D.1.isThere (c := 0) (b := hE h (o + 10) 2) ⟨by omega, by omega⟩ c0 c1 c2 d0 d1 p0 (by omega) (fun q => by omega)
  have th' : thB T 0 d p (hE h (o + 10) 2) = true := by
    unfold thB
    rw [if_pos rfl]
    exact decide_eq_true p1
  rw [th'] at ei
  have lg := D.1.longOf (d := d) (v := T (1 + d) - 1) (by omega) (by omega)
  have lg' : m_X12_longOf o (J d) (J (T (1 + d)) - (1 : Int32)) h = some (J (lnT T d (T (1 + d) - 1))) := by
    rw [show (1 : Int32) = J 1 from rfl, J_sub, lg]
  by_cases c5 : 20 ≤ lnT T d (T (1 + d) - 1)
  · rw [if_pos c5]
    refine ⟨h, ?_, FR.refl _ _, D⟩
    unfold m_X12_makes
    rw [D.1.1.r19, bs, a0', bs, rc_ok D.tag, D.1.versions d0 (by omega), bs, if_neg (show ¬ (10 : Int32) ≤ J (T (1 + d)) by rw [show (10 : Int32) = J 10 from rfl, J_le (by omega) (by omega) (by omega) (by omega)]; exact c), rc_ok D.tag, ei, bs, if_neg (show ¬ J (b01 true) = 0 by decide), if_neg (show ¬ ¬ J 0 = 0 by decide), bs, a0', bs, bs, a0', bs, rc_ok D.tag, D.1.versions d0 (by omega), bs, rc_ok D.tag, lg', bs, if_pos (show (20 : Int32) ≤ J (lnT T d (T (1 + d) - 1)) by rw [show (20 : Int32) = J 20 from rfl, J_le (by omega) (by omega) (by omega) (by omega)]; exact c5)]
  · rw [if_neg c5]
    obtain ⟨g, e, F, R⟩ := mk c5
    refine ⟨g, ?_, F.mono (fun b k => ATo_ADr), D.made F R⟩
    unfold m_X12_makes
    rw [D.1.1.r19, bs, a0', bs, rc_ok D.tag, D.1.versions d0 (by omega), bs, if_neg (show ¬ (10 : Int32) ≤ J (T (1 + d)) by rw [show (10 : Int32) = J 10 from rfl, J_le (by omega) (by omega) (by omega) (by omega)]; exact c), rc_ok D.tag, ei, bs, if_neg (show ¬ J (b01 true) = 0 by decide), if_neg (show ¬ ¬ J 0 = 0 by decide), bs, a0', bs, bs, a0', bs, rc_ok D.tag, D.1.versions d0 (by omega), bs, rc_ok D.tag, lg', bs, if_neg (show ¬ (20 : Int32) ≤ J (lnT T d (T (1 + d) - 1)) by rw [show (20 : Int32) = J 20 from rfl, J_le (by omega) (by omega) (by omega) (by omega)]; exact c5)]
    unfold j_X12_makes_54
    rw [rc_ok D.tag, e, bs]
/-- a cell of the change -/
theorem RD.cell (D : RD h o T s dt) {i z : Int} (i0 : 0 ≤ i) (i1 : i < 4) (z0 : -2147483648 ≤ z) (z1 : z < 2147483648) : ∃ g, asI h (o + 10) (J i) (J z) = some g ∧ FR (fun b k => b = o + 10 ∧ k = i.toNat) h g ∧ RD g o T s dt ∧ hE g (o + 10) i = z := by
  have F : FR (fun b k => b = o + 10 ∧ k = i.toNat) h (wE h (o + 10) i z) := FR.wE (A := fun b k => b = o + 10 ∧ k = i.toNat) ⟨rfl, rfl⟩
  exact ⟨_, asI_ok D.1.1.a19 i0 (by omega) (by omega), F, D.frame F (fun k => by omega) (by omega) (by omega), by rw [hE_wE (by omega) (by omega) z0 z1, if_pos ⟨rfl, rfl⟩]⟩
theorem RD.many (D : RD h o T s dt) {z : Int} (z0 : -2147483648 ≤ z) (z1 : z < 2147483648) : ∃ g, pfI h o 12 21 (J z) = some g ∧ FR (fun b k => b = o ∧ k = 21) h g ∧ RD g o T s dt ∧ hE g o 21 = z := by
  have F : FR (fun b k => b = o ∧ k = 21) h (wE h o 21 z) := FR.wE (A := fun b k => b = o ∧ k = 21) ⟨rfl, rfl⟩
  exact ⟨_, pfI_ok (k := 21) D.tag, F, D.frame F (fun k => by omega) (by omega) (by omega), by rw [hE_wE (by omega) (by omega) z0 z1, if_pos ⟨rfl, rfl⟩]⟩
theorem RD.word (D : RD h o T s dt) {z : Int} (z0 : -2147483648 ≤ z) (z1 : z < 2147483648) : ∃ g, asI h (o + 11) (J 0) (J z) = some g ∧ FR (fun b _ => b = o + 11) h g ∧ RD g o T s dt ∧ hE g (o + 11) 0 = z := by
  have F : FR (fun b _ => b = o + 11) h (wE h (o + 11) 0 z) := FR.wE (A := fun b _ => b = o + 11) rfl
  exact ⟨_, asI_ok D.1.1.a20 (by omega) (by omega) (by omega), F, D.frame F (fun k => by omega) (by omega) (by omega), by rw [hE_wE (by omega) (by omega) z0 z1, if_pos ⟨rfl, rfl⟩]⟩
end DRR
