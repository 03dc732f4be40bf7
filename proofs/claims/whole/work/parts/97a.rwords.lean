/-! PURE PART: the reference takes words as long as they go -/
def e2u (B : Int → Int) (L f k n : Int) : Int := if msF B L f k n = -1 then 9999 else 8 * msF B L f k n + 2
def e3u (B : Int → Int) (L f k m n : Int) : Int := if m < n then 8 * wpF B L f k m + 3 else 9999
def gdU (B : Int → Int) (L f k gd n : Int) : Int := if msF B L f k n = -1 then gd else 0
def Awl (o b k : Nat) : Prop := (b = o ∧ (k = 9 ∨ k = 11 ∨ k = 12 ∨ k = 13 ∨ k = 14 ∨ k = 16 ∨ k = 17 ∨ k = 21 ∨ k = 22)) ∨ b = o + 11
theorem Ard_l {o b k : Nat} (q : Awl o b k) : Ard o b k := by
  unfold Awl at q
  unfold Ard
  omega
/-- n words are read, m are the most -/
def RWd (h0 h : Hp) (o : Nat) (B : Int → Int) (L f k X gd m n : Int) : Prop := FR (Awl o) h0 h ∧ RK h o B L (wpF B L f k n) ∧ ENr h o (min X (min (e2u B L f k n) (e3u B L f k m n))) ∧ hE h o 22 = gdU B L f k gd n ∧ hE h o 21 = n ∧ ∀ j, 0 ≤ j → j < n → lgB B L f k j = false → hE h (o + 11) j = wnL B L f k j
section RWs
variable {h h0 : Hp} {o : Nat} {B : Int → Int} {L f k X gd m n : Int}
theorem ms_rg (f0 : 0 ≤ f) (fL : f ≤ L) (n0 : 0 ≤ n) : msF B L f k n = -1 ∨ (f ≤ msF B L f k n ∧ msF B L f k n ≤ wpF B L f k n) := by
  have kr := kk_rg k
  unfold msF
  rcases fiZ_spec n (lgB B L f k) with ⟨e1, e2⟩ | ⟨e1, e2, e3, e4⟩
  · rw [if_pos e1]
    exact Or.inl rfl
  · rw [if_neg (by omega)]
    refine Or.inr ⟨(tk_rg (B := B) (i := 1 + wOk k + fiZ n (lgB B L f k)) fL (by omega)).1, ?_⟩
    exact tk_le (B := B) fL (by omega) (by omega)
theorem e2u_succ (f0 : 0 ≤ f) (fL : f ≤ L) (hL : L ≤ 600) (n0 : 0 ≤ n) : min (e2u B L f k n) (if 4 < toF B L (wpF B L f k n) - wpF B L f k n then 8 * wpF B L f k n + 2 else 9999) = min (e2u B L f k (n + 1)) 9999 := by
  have ms := ms_rg (B := B) (k := k) f0 fL n0
  have s := ms_succ (B := B) (L := L) (k := k) n0 f0 fL
  have kr := kk_rg k
  have wf := tk_rg (B := B) (i := 1 + wOk k + n) fL (by omega)
  have wf' : f ≤ wpF B L f k n ∧ wpF B L f k n ≤ L := ⟨wf.1, wf.2.1⟩
  unfold e2u
  generalize msF B L f k (n + 1) = M' at *
  generalize msF B L f k n = M at *
  generalize wpF B L f k n = wp at *
  by_cases q : 4 < toF B L wp - wp ∧ M = -1
  · rw [if_pos q] at s
    rw [if_pos q.2, if_pos q.1, s, if_neg (by omega)]
    omega
  · rw [if_neg q] at s
    rw [s]
    by_cases cm : M = -1
    · rw [if_pos cm, if_neg (fun y => q ⟨y, cm⟩)]
    · rw [if_neg cm]
      split <;> omega
theorem gdU_succ (f0 : 0 ≤ f) (fL : f ≤ L) (n0 : 0 ≤ n) : (if 4 < toF B L (wpF B L f k n) - wpF B L f k n then 0 else gdU B L f k gd n) = gdU B L f k gd (n + 1) := by
  have ms := ms_rg (B := B) (k := k) f0 fL n0
  have kr := kk_rg k
  have wf := (tk_rg (B := B) (i := 1 + wOk k + n) fL (by omega)).1
  have s := ms_succ (B := B) (L := L) (k := k) n0 f0 fL
  have wf' : f ≤ wpF B L f k n := wf
  unfold gdU
  generalize msF B L f k (n + 1) = M' at *
  generalize msF B L f k n = M at *
  generalize wpF B L f k n = wp at *
  by_cases q : 4 < toF B L wp - wp ∧ M = -1
  · rw [if_pos q] at s
    rw [if_pos q.1, s, if_neg (by omega)]
  · rw [if_neg q] at s
    rw [s]
    by_cases cm : M = -1
    · rw [if_pos cm, if_neg (fun y => q ⟨y, cm⟩)]
    · rw [if_neg cm]
      split <;> rfl
theorem wp_far (W : LnW B L f k) (fl : f < L) : ∀ j : Nat, (j : Int) < nwF B L f k → f + 1 + 2 * j ≤ wpF B L f k j
  | 0, h => by
    have kr := kk_rg k
    have a := tk_le (B := B) (L := L) (f := f) (i := 1) (j := 1 + wOk k + 0) (by omega) (by omega) (by omega)
    have n := (nx_rg (B := B) (L := L) (f := f) (by omega)).2.2 fl
    have e : tkI B L f 1 = nxF B L f := rfl
    unfold wpF
    show f + 1 + 2 * ((0 : Nat) : Int) ≤ tkI B L f (1 + wOk k + 0)
    omega
  | j + 1, h => by
    have kr := kk_rg k
    have ih := wp_far W fl j (by omega)
    have c := W.wrd (j := (j : Int)) (by omega) (by omega)
    have c2 := W.wrd (j := ((j + 1 : Nat) : Int)) (by omega) h
    have e : nxF B L (wpF B L f k j) = wpF B L f k ((j + 1 : Nat) : Int) := by
      unfold wpF
      rw [show 1 + wOk k + ((j + 1 : Nat) : Int) = 1 + wOk k + (j : Int) + 1 by omega, tkI_succ (by omega)]
    have s := let_step c.2.2 c.1
    rw [e, if_pos c2.1] at s
    have t := ck_let c.1 c.2.2
    omega
theorem nw_lt (W : LnW B L f k) (fl : f < L) (n1 : n < nwF B L f k) (n0 : 0 ≤ n) : n < 300 := by
  have a := wp_far W fl n.toNat (by omega)
  have c := W.wrd n0 n1
  have t := ck_let c.1 c.2.2
  have hw := W.1
  rw [show ((n.toNat : Nat) : Int) = n by omega] at a
  omega
theorem RWd.rp (R : RWd h0 h o B L f k X gd m n) (H : RP h0 o B L) : RP h o B L := H.ata (R.1.mono (fun b k q => Ard_l q))
theorem RWd.start (K : RK h o B L (wpF B L f k 0)) (E : ENr h o X) (hg : hE h o 22 = gd) (hw : hE h o 21 = 0) (m0 : 0 ≤ m) : RWd h h o B L f k X gd m 0 := by
  have le := E.le
  refine ⟨FR.refl _ _, K, ?_, hg, hw, fun j j0 j1 => by omega⟩
  unfold e3u
  rw [show e2u B L f k 0 = 9999 from rfl, if_neg (by omega), show min X (min 9999 9999) = X by omega]
  exact E
theorem RWd.one0 (R : RWd h0 h o B L f k X gd m n) (H : RP h0 o B L) (f0 : 0 ≤ f) (fL : f ≤ L) (n0 : 0 ≤ n) (n300 : n < 300) (cc : ckF B L (wpF B L f k n) = 1) (nm : n < m) : ∃ h', m_X12_takeWord o h = some (J 1, h') ∧ RWd h0 h' o B L f k X gd m (n + 1) := by
  have H' := R.rp H
  obtain ⟨r1, r2, r3, r4, r5, r6⟩ := R
  have kr := kk_rg k
  have hL := H.2.1.2.1
  have tw := tk_rg (B := B) (i := 1 + wOk k + n) fL (by omega)
  have c : ckF B L (wpF B L f k n) = 1 ∧ f ≤ wpF B L f k n ∧ wpF B L f k n ≤ L := ⟨cc, tw.1, tw.2.1⟩
  obtain ⟨h', e1, F, K, E, vw, vg, vn⟩ := r2.word H' (by omega) c.2.2 c.1 r3 r4 r5 n0 n300
  refine ⟨h', e1, r1.trans (F.mono (fun b k q => by unfold Awo at q; unfold Awl; omega)), ?_, ?_, ?_, vn, fun j j0 j1 jl => ?_⟩
  · have e : nxF B L (wpF B L f k n) = wpF B L f k (n + 1) := by
      unfold wpF
      rw [show 1 + wOk k + (n + 1) = 1 + wOk k + n + 1 by omega, tkI_succ (by omega)]
    rw [← e]
    exact K
  · have s := e2u_succ (B := B) (k := k) f0 fL hL n0
    have z3 : e3u B L f k m n = 9999 := if_neg (by omega)
    have z4 : e3u B L f k m (n + 1) = 9999 := if_neg (by omega)
    rw [z4]
    rw [z3] at E
    rw [show min X (min (e2u B L f k (n + 1)) 9999) = min (min X (min (e2u B L f k n) 9999)) (if 4 < toF B L (wpF B L f k n) - wpF B L f k n then 8 * wpF B L f k n + 2 else 9999) by rw [← s]; generalize (if 4 < toF B L (wpF B L f k n) - wpF B L f k n then 8 * wpF B L f k n + 2 else 9999) = y at *; have := c.2.2; generalize e2u B L f k n = x at *; generalize e2u B L f k (n + 1) = x' at *; omega]
    exact E
  · rw [vg, gdU_succ f0 fL n0]
  · by_cases q : j = n
    · rw [q]
      rw [q] at jl
      exact vw (of_decide_eq_false jl)
    · rw [F.e (by unfold Awo; omega)]
      exact r6 j j0 (by omega) jl
theorem RWd.one (R : RWd h0 h o B L f k X gd m n) (H : RP h0 o B L) (W : LnW B L f k) (fl : f < L) (n0 : 0 ≤ n) (n1 : n < nwF B L f k) (nm : n < m) : ∃ h', m_X12_takeWord o h = some (J 1, h') ∧ RWd h0 h' o B L f k X gd m (n + 1) := R.one0 H W.1.1 W.1.2.1 n0 (nw_lt W fl n1 n0) (W.wrd n0 n1).1 nm
/-- all words, as long as they go -/
theorem RWd.all (R : RWd h0 h o B L f k X gd m n) (H : RP h0 o B L) (W : LnW B L f k) (fl : f < L) (cm : moK k = true) (n0 : 0 ≤ n) (n1 : n ≤ nwF B L f k) (m0 : 0 ≤ m) (m1 : m ≤ 20) : ∃ h', m_X12_takeWords o (J m) h = some h' ∧ RWd h0 h' o B L f k X gd m (nwF B L f k) := by
  have kr := kk_rg k
  have f0 := W.1.1
  have ex := ex_spec (B := B) (k := k) W.1.2.2 W.1.1 W.1.2.1
  have nb : nwF B L f k ≤ 700 := by unfold nwF; omega
  obtain ⟨g, G, el⟩ := loop_ex (body := fun (k_ : Hp → Option Hp) (s : Hp) => b_X12_takeWords_0 o (J m) (fun hq => k_ hq) s) (s := h) (fun i g => RWd h0 g o B L f k X gd m (n + i)) (fun g => some g) (nwF B L f k - n) (by omega) (by omega) (by rw [Int.add_zero]; exact R) (by
    rintro k_ i g i0 i1 G
    have H' := G.rp H
    obtain ⟨r1, r2, r3, r4, r5, r6⟩ := G
    have c := W.wrd (j := n + i) (by omega) (by omega)
    have f12 := r2.f12 H'
    rw [(rk_2 (B := B) (L := L) (p := wpF B L f k (n + i))).mpr c.1] at f12
    have f21 : gfI g o 12 21 = some (J (n + i)) := by rw [H'.fI]; exact congrArg (fun z => some (J z)) r5
    have e : nxF B L (wpF B L f k (n + i)) = wpF B L f k (n + (i + 1)) := by
      unfold wpF
      rw [show 1 + wOk k + (n + (i + 1)) = 1 + wOk k + (n + i) + 1 by omega, tkI_succ (by omega)]
    by_cases b : n + i < m
    · obtain ⟨g', e1, G'⟩ := (show RWd h0 g o B L f k X gd m (n + i) from ⟨r1, r2, r3, r4, r5, r6⟩).one H W fl (by omega) (by omega) b
      refine ⟨g', by rw [show n + (i + 1) = n + i + 1 by omega]; exact G', ?_⟩
      show b_X12_takeWords_0 o (J m) (fun hq => k_ hq) g = _
      simp (disch := omega) only [b_X12_takeWords_0, j_X12_takeWords_25, f12, f21, rc_ok H'.tag, e1, lm8, lm2, lm1, l0, l1, l2, l3, l4, l5, l6, l7, l8, l9, l10, l11, l12, l13, l14, l15, l16, l17, l18, l19, l20, l21, l22, l23, l24, l25, l27, l31, l32, l40, l46, l48, l50, l57, l59, l63, l86, l96, l97, l100, l110, l114, l122, l127, l200, l255, l300, l319, l320, l340, l441, l456, l580, l600, l800, l886, l1206, l1526, J_add, J_sub, J_mul, J_neg, J_lt, J_le, J_eq, jT, jF, iT, iF, eT, eF, aT, aF, ite_true, ite_false, ite_not, bs]
    · have hw := W.1
      obtain ⟨g1, n1_, F1, E1⟩ := r3.note H'.tag (s' := 3) (p' := wpF B L f k (n + i)) (by omega) (by omega) (by omega) (by omega)
      have F1' : FR (Awl o) g g1 := F1.mono (fun b k q => by unfold Afr at q; unfold Awl; omega)
      have H1 : RP g1 o B L := H'.ata (F1'.mono (fun b k q => Ard_l q))
      have K1 : RK g1 o B L (wpF B L f k (n + i)) := by
        obtain ⟨a1, a2, a3, a4, a5⟩ := r2
        exact ⟨by rw [F1.e (by unfold Afr; omega), a1], by rw [F1.e (by unfold Afr; omega), a2], by rw [F1.e (by unfold Afr; omega), a3], fun q => by rw [F1.e (by unfold Afr; omega), a4 q], by rw [F1.l (by unfold Afr; omega), a5]⟩
      obtain ⟨g2, e2, F2, K2, E2, vw, vg, vn⟩ := K1.word H1 (by omega) c.2.2 c.1 E1 (by rw [F1.e (by unfold Afr; omega), r4]) (by rw [F1.e (by unfold Afr; omega), r5]) (by omega) (nw_lt W fl (n := n + i) (by omega) (by omega))
      refine ⟨g2, ⟨(r1.trans F1').trans (F2.mono (fun b k q => by unfold Awo at q; unfold Awl; omega)), by rw [← e]; exact K2, ?_, ?_, by rw [vn]; omega, fun j j0 j1 jl => ?_⟩, ?_⟩
      · have s := e2u_succ (B := B) (k := k) f0 W.1.2.1 W.1.2.2 (n := n + i) (by omega)
        have z4 : e3u B L f k m (n + i + 1) = 8 * wpF B L f k m + 3 := if_pos (by omega)
        have z5 : min (e3u B L f k m (n + i)) (8 * wpF B L f k (n + i) + 3) = 8 * wpF B L f k m + 3 := by
          unfold e3u
          by_cases q : m < n + i
          · rw [if_pos q]
            have := tk_le (B := B) (f := f) (L := L) (i := 1 + wOk k + m) (j := 1 + wOk k + (n + i)) (by omega) (by omega) (by omega)
            have : wpF B L f k m ≤ wpF B L f k (n + i) := this
            omega
          · rw [if_neg q, show n + i = m by omega]
            have := W.wrd (j := m) (by omega) (by omega)
            omega
        rw [show n + (i + 1) = n + i + 1 by omega, z4, ← z5]
        have hl2 : e2u B L f k (n + i + 1) ≤ 9999 := by
          have ms := ms_rg (B := B) (k := k) f0 W.1.2.1 (n := n + i + 1) (by omega)
          have : wpF B L f k (n + i + 1) ≤ 600 := by
            have := (tk_rg (B := B) (f := f) (L := L) (i := 1 + wOk k + (n + i + 1)) (by omega) (by omega)).2.1
            unfold wpF
            omega
          unfold e2u
          split <;> omega
        rw [show min X (min (e2u B L f k (n + i + 1)) (min (e3u B L f k m (n + i)) (8 * wpF B L f k (n + i) + 3))) = min (min (min X (min (e2u B L f k (n + i)) (e3u B L f k m (n + i)))) (8 * wpF B L f k (n + i) + 3)) (if 4 < toF B L (wpF B L f k (n + i)) - wpF B L f k (n + i) then 8 * wpF B L f k (n + i) + 2 else 9999) by
          rw [show e2u B L f k (n + i + 1) = min (e2u B L f k (n + i)) (if 4 < toF B L (wpF B L f k (n + i)) - wpF B L f k (n + i) then 8 * wpF B L f k (n + i) + 2 else 9999) by rw [s]; omega]
          generalize (if 4 < toF B L (wpF B L f k (n + i)) - wpF B L f k (n + i) then 8 * wpF B L f k (n + i) + 2 else 9999) = y
          generalize e2u B L f k (n + i) = x
          generalize e3u B L f k m (n + i) = x3
          omega]
        exact E2
      · rw [vg, gdU_succ f0 W.1.2.1 (by omega), show n + (i + 1) = n + i + 1 by omega]
      · by_cases q : j = n + i
        · rw [q]
          rw [q] at jl
          exact vw (of_decide_eq_false jl)
        · rw [F2.e (by unfold Awo; omega), F1.e (by unfold Afr; omega)]
          exact r6 j j0 (by omega) jl
      · show b_X12_takeWords_0 o (J m) (fun hq => k_ hq) g = _
        simp (disch := omega) only [b_X12_takeWords_0, j_X12_takeWords_25, f12, f21, r2.f11 H', rc_ok H'.tag, n1_, rc_ok H1.tag, e2, lm8, lm2, lm1, l0, l1, l2, l3, l4, l5, l6, l7, l8, l9, l10, l11, l12, l13, l14, l15, l16, l17, l18, l19, l20, l21, l22, l23, l24, l25, l27, l31, l32, l40, l46, l48, l50, l57, l59, l63, l86, l96, l97, l100, l110, l114, l122, l127, l200, l255, l300, l319, l320, l340, l441, l456, l580, l600, l800, l886, l1206, l1526, J_add, J_sub, J_mul, J_neg, J_lt, J_le, J_eq, jT, jF, iT, iF, eT, eF, aT, aF, ite_true, ite_false, ite_not, bs]) (by
    rintro k_ g G
    have H' := G.rp H
    have K := G.2.1
    have e : wpF B L f k (n + (nwF B L f k - n)) = tkI B L f (1 + shL k + exF B L f k) := by
      unfold wpF nwF
      rw [mo_shL cm, show 1 + wOk k + (n + (wCk k + exF B L f k - n)) = 1 + (wOk k + wCk k) + exF B L f k by omega]
    have c := ex.2.2.2.1 cm
    rw [← e] at c
    have f12 := K.f12 H'
    have rg := rk_rg (B := B) (L := L) (p := wpF B L f k (n + (nwF B L f k - n)))
    have c2 := rk_2 (B := B) (L := L) (p := wpF B L f k (n + (nwF B L f k - n)))
    generalize rkF B L (wpF B L f k (n + (nwF B L f k - n))) = y at *
    have c' : y < 2 ∨ 2 < y := by omega
    show b_X12_takeWords_0 o (J m) (fun hq => k_ hq) g = _
    simp (disch := first | omega | exact c') only [b_X12_takeWords_0, f12, lm8, lm2, lm1, l0, l1, l2, l3, l4, l5, l6, l7, l8, l9, l10, l11, l12, l13, l14, l15, l16, l17, l18, l19, l20, l21, l22, l23, l24, l25, l27, l31, l32, l40, l46, l48, l50, l57, l59, l63, l86, l96, l97, l100, l110, l114, l122, l127, l200, l255, l300, l319, l320, l340, l441, l456, l580, l600, l800, l886, l1206, l1526, J_add, J_sub, J_mul, J_neg, J_lt, J_le, J_eq, jT, jF, iT, iF, eT, eF, aT, aF, ite_true, ite_false, ite_not, bs])
  rw [show n + (nwF B L f k - n) = nwF B L f k by omega] at G
  exact ⟨g, el, G⟩
end RWs
