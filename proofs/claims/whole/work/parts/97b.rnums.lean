/-! PURE PART: the reference's numbers one behind the other; a change read -/
def Anm (o b k : Nat) : Prop := (b = o ∧ (k = 9 ∨ k = 11 ∨ k = 12 ∨ k = 13 ∨ k = 14 ∨ k = 16 ∨ k = 17 ∨ k = 22)) ∨ b = o + 10
theorem Ard_m {o b k : Nat} (q : Anm o b k) : Ard o b k := by
  unfold Anm at q
  unfold Ard
  omega
/-- n numbers are read, from cell c0 on -/
def RNs (h0 h : Hp) (o : Nat) (B : Int → Int) (L f k E own gd c0 n : Int) : Prop := FR (Anm o) h0 h ∧ RK h o B L (vpF B L f k n) ∧ ENr h o (min E (bnU B L f k own n.toNat)) ∧ hE h o 22 = (if bnU B L f k own n.toNat = 9999 then gd else 0) ∧ ∀ j, 0 ≤ j → j < n → hE h (o + 10) (c0 + j) = viF B L f k j
theorem mi_at {B : Int → Int} {L f k i : Int} (i0 : 0 ≤ i) (i1 : i < shL k) (a : ∀ j, 0 ≤ j → j < i → ckF B L (tkI B L f (1 + j)) = cnK k j) (c : ckF B L (tkI B L f (1 + i)) ≠ cnK k i) : miF B L f k = i ∧ enF B L f k = 1 + i := by
  have e : miF B L f k = i := fiZ_eq i0 i1 (decide_eq_true c) (fun j j0 j1 => decide_eq_false (fun q => q (a j j0 j1)))
  refine ⟨e, ?_⟩
  unfold enF
  rw [e, if_neg (by omega)]
theorem mi_all {B : Int → Int} {L f k : Int} (a : ∀ j, 0 ≤ j → j < shL k → ckF B L (tkI B L f (1 + j)) = cnK k j) : miF B L f k = -1 ∧ enF B L f k = 1 + shL k + exF B L f k := by
  have e : miF B L f k = -1 := fiZ_none (fun j j0 j1 => decide_eq_false (fun q => q (a j j0 j1)))
  refine ⟨e, ?_⟩
  unfold enF
  rw [if_pos e]
section RNu
variable {h h0 : Hp} {o : Nat} {B : Int → Int} {L f k E own gd c0 n : Int}
theorem RNs.rp (R : RNs h0 h o B L f k E own gd c0 n) (H : RP h0 o B L) : RP h o B L := H.ata (R.1.mono (fun b k q => Ard_m q))
theorem RNs.start (K : RK h o B L (vpF B L f k 0)) (e : ENr h o E) (hg : hE h o 22 = gd) : RNs h h o B L f k E own gd c0 0 := by
  have le := e.le
  refine ⟨FR.refl _ _, K, ?_, ?_, fun j j0 j1 => by omega⟩
  · show ENr h o (min E 9999)
    rw [show min E 9999 = E by omega]
    exact e
  · show hE h o 22 = if (9999 : Int) = 9999 then gd else 0
    rw [if_pos rfl, hg]
theorem RNs.fail (R : RNs h0 h o B L f k E own gd c0 n) (H : RP h0 o B L) (c : ckF B L (vpF B L f k n) ≠ 2) {x y z : Int32} : ∃ h', m_X12_take o x y z h = some (J 0, h') ∧ FR (Ard o) h0 h' ∧ hE h' o 15 = vpF B L f k n := by
  obtain ⟨h', e1, F, v⟩ := R.2.1.noTake (R.rp H) c (x := x) (y := y) (z := z)
  exact ⟨h', e1, (R.1.mono (fun b k q => Ard_m q)).trans (F.mono (fun b k q => Ard_f q)), v⟩
theorem RNs.one2 (R : RNs h0 h o B L f k E own gd c0 n) (H : RP h0 o B L) (f0 : 0 ≤ f) (fL : f ≤ L) (n0 : 0 ≤ n) (n3 : n < 3) (c : ckF B L (vpF B L f k n) = 2) (d0 : 0 ≤ c0) (d1 : c0 ≤ 1) (o0 : 0 ≤ own) (o8 : own ≤ 8) {lo hi : Int} (hlo : lo = loV k n) (hhi : hi = hiV k own n) : ∃ h', m_X12_take o (J (c0 + n)) (J lo) (J hi) h = some (J 1, h') ∧ RNs h0 h' o B L f k E own gd c0 (n + 1) ∧ FR (Ata o (c0 + n).toNat) h h' := by
  have H' := R.rp H
  have kr := kk_rg k
  obtain ⟨r1, r2, r3, r4, r5⟩ := R
  have t := tk_rg (B := B) (i := 1 + wCk k + n) fL (by omega)
  have t' : f ≤ vpF B L f k n ∧ vpF B L f k n ≤ L := ⟨t.1, t.2.1⟩
  have lo1 : 0 ≤ lo ∧ lo ≤ 1 := by rw [hlo]; unfold loV; split <;> omega
  have hi1 : -1 ≤ hi ∧ hi ≤ 20 := by rw [hhi]; unfold hiV; repeat' split
                                     all_goals omega
  obtain ⟨h', e1, F, K, En, v, g⟩ := r2.take H' (by omega) t'.2 c r3 r4 (k := c0 + n) (lo := lo) (hi := hi) (by omega) (by omega) (by omega) (by omega) (by omega) (by omega)
  have eb : bnU B L f k own (n + 1).toNat = min (bnU B L f k own n.toNat) (bnE B L f k own n) := by
    rw [show (n + 1).toNat = n.toNat + 1 by omega]
    show min _ (bnE B L f k own ((n.toNat : Nat) : Int)) = _
    rw [show ((n.toNat : Nat) : Int) = n by omega]
  have eB : bnE B L f k own n = if nuN B (vpF B L f k n) (toF B L (vpF B L f k n) - vpF B L f k n) < lo ∨ hi < nuN B (vpF B L f k n) (toF B L (vpF B L f k n) - vpF B L f k n) then 8 * vpF B L f k n + 2 else 9999 := by
    rw [hlo, hhi]
    rfl
  have le := bnU_le (B := B) (L := L) (f := f) (k := k) (own := own) (n := n.toNat)
  have hL := H.2.1.2.1
  refine ⟨h', e1, ⟨r1.trans (F.mono (fun b k q => by unfold Ata at q; unfold Anm; omega)), ?_, ?_, ?_, fun j j0 j1 => ?_⟩, F⟩
  · rw [show vpF B L f k (n + 1) = nxF B L (vpF B L f k n) by
      unfold vpF
      rw [show 1 + wCk k + (n + 1) = 1 + wCk k + n + 1 by omega, tkI_succ (by omega)]]
    exact K
  · rw [eb, eB]
    generalize (if nuN B (vpF B L f k n) (toF B L (vpF B L f k n) - vpF B L f k n) < lo ∨ hi < nuN B (vpF B L f k n) (toF B L (vpF B L f k n) - vpF B L f k n) then 8 * vpF B L f k n + 2 else 9999) = y at *
    rw [show min E (min (bnU B L f k own n.toNat) y) = min (min E (bnU B L f k own n.toNat)) y by omega]
    exact En
  · rw [g, eb, eB]
    by_cases b : nuN B (vpF B L f k n) (toF B L (vpF B L f k n) - vpF B L f k n) < lo ∨ hi < nuN B (vpF B L f k n) (toF B L (vpF B L f k n) - vpF B L f k n)
    · rw [if_pos b, if_pos b, if_neg (by omega)]
    · rw [if_neg b, if_neg b, show min (bnU B L f k own n.toNat) 9999 = bnU B L f k own n.toNat by omega]
  · by_cases q : j = n
    · rw [q, v]
      rfl
    · rw [F.e (by unfold Ata; omega)]
      exact r5 j j0 (by omega)
theorem RNs.one (R : RNs h0 h o B L f k E own gd c0 n) (H : RP h0 o B L) (f0 : 0 ≤ f) (fL : f ≤ L) (n0 : 0 ≤ n) (n3 : n < 3) (c : ckF B L (vpF B L f k n) = 2) (d0 : 0 ≤ c0) (d1 : c0 ≤ 1) (o0 : 0 ≤ own) (o8 : own ≤ 8) {lo hi : Int} (hlo : lo = loV k n) (hhi : hi = hiV k own n) : ∃ h', m_X12_take o (J (c0 + n)) (J lo) (J hi) h = some (J 1, h') ∧ RNs h0 h' o B L f k E own gd c0 (n + 1) := by
  obtain ⟨h', e1, R', _⟩ := R.one2 H f0 fL n0 n3 c d0 d1 o0 o8 hlo hhi
  exact ⟨h', e1, R'⟩
/-- what a line read leaves, where all of its items are right -/
def RLn (h0 h : Hp) (o : Nat) (B : Int → Int) (L f k E own c0 wE : Int) : Prop := FR (Ard o) h0 h ∧ RK h o B L (tkI B L f (1 + shL k + exF B L f k)) ∧ ENr h o (min E (min (min (e2n B L f k own) (e2w B L f k)) wE)) ∧ hE h o 22 = (if min (e2n B L f k own) (e2w B L f k) = 9999 then 1 else 0) ∧ hE h o 21 = nwF B L f k ∧ (∀ j, 0 ≤ j → j < nCk k → hE h (o + 10) (c0 + j) = viF B L f k j) ∧ ∀ j, 0 ≤ j → j < nwF B L f k → lgB B L f k j = false → hE h (o + 11) j = wnL B L f k j
/-- a line read: wrong, or as above -/
def RLx (h0 h : Hp) (o : Nat) (B : Int → Int) (L f k E own c0 wE x : Int) : Prop := (x = 0 ∧ miF B L f k ≠ -1 ∧ FR (Ard o) h0 h ∧ hE h o 15 = tkI B L f (enF B L f k)) ∨ (x = 1 ∧ miF B L f k = -1 ∧ RLn h0 h o B L f k E own c0 wE)
theorem RLx.rg {x wE : Int} (R : RLx h0 h o B L f k E own c0 wE x) : FR (Ard o) h0 h ∧ (x = 0 ∨ x = 1) := by
  rcases R with ⟨a, b, c, d⟩ | ⟨a, b, c⟩
  · exact ⟨c, Or.inl a⟩
  · exact ⟨c.1, Or.inr a⟩
/-- numbers alone, all read -/
theorem RNs.done (R : RNs h0 h o B L f k E own 1 c0 (nCk k)) (H : RP h0 o B L) (W : LnW B L f k) (cm : moK k ≠ true) (cw : wCk k = 0) (h21 : hE h o 21 = 0) : RLn h0 h o B L f k E own c0 9999 := by
  obtain ⟨r1, r2, r3, r4, r5⟩ := R
  have ex := ex_spec (B := B) (k := k) W.1.2.2 W.1.1 W.1.2.1
  have x0 := ex.2.2.2.2 cm
  have nw : nwF B L f k = 0 := by unfold nwF; omega
  have w9 : e2w B L f k = 9999 := by
    unfold e2w
    rw [nw]
    rfl
  have le : e2n B L f k own ≤ 9999 := bnU_le
  have e2 : bnU B L f k own (nCk k).toNat = e2n B L f k own := rfl
  rw [e2] at r3 r4
  refine ⟨r1.mono (fun b k q => Ard_m q), ?_, ?_, ?_, by rw [nw]; exact h21, r5, fun j j0 j1 => by omega⟩
  · rw [x0, show 1 + shL k + 0 = 1 + wCk k + nCk k by have := kk_rg k; omega]
    exact r2
  · rw [w9, show min E (min (min (e2n B L f k own) 9999) 9999) = min E (e2n B L f k own) by omega]
    exact r3
  · rw [w9, show min (e2n B L f k own) 9999 = e2n B L f k own by omega]
    exact r4
theorem cn_num {k : Int} (cw : wCk k = 0) {j : Int} (j0 : 0 ≤ j) : cnK k j = 2 := by
  unfold cnK
  rw [if_neg (by omega)]
theorem vp_0 (cw : wCk k = 0) {j : Int} : vpF B L f k j = tkI B L f (1 + j) := by
  unfold vpF
  rw [cw, show 1 + 0 + j = 1 + j by omega]
theorem RK.fr (K : RK h0 o B L f) {A : Nat → Nat → Prop} (F : FR A h0 h) (n : ∀ k, (k = 9 ∨ k = 11 ∨ k = 12 ∨ k = 13 ∨ k = 14) → ¬ A o k) : RK h o B L f := by
  obtain ⟨a1, a2, a3, a4, a5⟩ := K
  exact ⟨by rw [F.e (n 11 (by omega)), a1], by rw [F.e (n 9 (by omega)), a2], by rw [F.e (n 12 (by omega)), a3], fun q => by rw [F.e (n 13 (by omega)), a4 q], by rw [F.l (n 14 (by omega)), a5]⟩
end RNu
