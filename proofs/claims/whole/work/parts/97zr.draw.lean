/-! PURE PART: drawn archives: draws, first tokens, what a turn makes -/
theorem ushr16 (x : Int32) : 0 ≤ (iushrF x 16).toInt ∧ (iushrF x 16).toInt < 65536 := by
  have e0 : (iushrF x 16).toInt = (x.toBitVec >>> (16 : Nat)).toInt := rfl
  have lt : x.toBitVec.toNat < 4294967296 := x.toBitVec.isLt
  have e : (x.toBitVec >>> (16 : Nat)).toNat = x.toBitVec.toNat / 65536 := by
    rw [BitVec.toNat_ushiftRight, Nat.shiftRight_eq_div_pow]
  rw [e0, BitVec.toInt_eq_toNat_cond, if_pos (by rw [e]; omega), e]
  omega
def dwN (z : Int) : Int := (J z * (1103515245 : Int32) + (12345 : Int32)).toInt
def dwV (z n : Int) : Int := (iremF (iushrF (J z) (16 : Int32)) (J n)).toInt
theorem dwN_J (z : Int) : J z * (1103515245 : Int32) + (12345 : Int32) = J (dwN z) := (J_inv _).symm
theorem dwV_J (z n : Int) : iremF (iushrF (J z) (16 : Int32)) (J n) = J (dwV z n) := (J_inv _).symm
theorem dwN_rg (z : Int) : -2147483648 ≤ dwN z ∧ dwN z < 2147483648 := J_rg _
theorem dwV_rg {z n : Int} (n0 : 0 < n) (n1 : n < 100000) : 0 ≤ dwV z n ∧ dwV z n < n := by
  have u := ushr16 (J z)
  have key : ∀ y : Int32, 0 ≤ y.toInt → y.toInt < 65536 → (iremF y (J n)).toInt = y.toInt % n := by
    intro y y0 y1
    have r0 := Int.emod_nonneg y.toInt (show n ≠ 0 by omega)
    have r1 := Int.emod_lt_of_pos y.toInt n0
    have e : iremF y (J n) = iremF (J y.toInt) (J n) := by rw [J_inv]
    rw [e, J_rem y0 (by omega) n0 (by omega), J_toInt (by omega) (by omega)]
  have e : dwV z n = (iushrF (J z) 16).toInt % n := key _ u.1 u.2
  rw [e]
  exact ⟨Int.emod_nonneg _ (by omega), Int.emod_lt_of_pos _ n0⟩
def fstT (T : Int → Int) (d : Int) : Int := fiZ (T 5) (fun t => decide (owT T t = d))
/-- what a turn makes of T: seed s behind document d, kind k; and the seed then -/
def dgT (dt : Int) (T : Int → Int) (s d k : Int) : Int → Int :=
  if k < 2 then (if lnT T d (T (1 + d) - 1) ≤ 0 then T else if 10 ≤ T (1 + d) then T else mkT T 0 d 0 (fun _ => 0) (lnT T d (T (1 + d) - 1) - 1) (rCut T d (T (1 + d) - 1) (dwV (dwN s) (lnT T d (T (1 + d) - 1))) 1) dt)
  else if k < 4 then (if fstT T d = -1 then T else if 10 ≤ T (1 + d) then T else if 20 ≤ lnT T d (T (1 + d) - 1) then T else mkT T 0 d 1 (fun _ => wdT T (fstT T d)) (lnT T d (T (1 + d) - 1) + 1) (rPut T d (T (1 + d) - 1) (dwV (dwN s) (lnT T d (T (1 + d) - 1) + 1)) 1) dt)
  else if k = 4 then (if lnT T d (T (1 + d) - 1) ≤ 0 then T else if 10 ≤ T (1 + d) then T else mkT T 0 d 0 (fun _ => 0) (lnT T d (T (1 + d) - 1)) (rMov T d (T (1 + d) - 1) (dwV (dwN s) (lnT T d (T (1 + d) - 1))) (dwV (dwN (dwN s)) (lnT T d (T (1 + d) - 1)))) dt)
  else if 10 ≤ T (1 + d) then T else mkT T 0 d 0 (fun _ => 0) (lnT T d (dwV (dwN s) (T (1 + d)))) (fun q => rwT T d (dwV (dwN s) (T (1 + d))) q) dt
def dgZ (T : Int → Int) (s d k : Int) : Int :=
  if k < 2 then (if lnT T d (T (1 + d) - 1) ≤ 0 then s else dwN s)
  else if k < 4 then (if fstT T d = -1 then s else dwN s)
  else if k = 4 then (if lnT T d (T (1 + d) - 1) ≤ 0 then s else dwN (dwN s))
  else dwN s
def dgST (dt : Int) (T : Int → Int) (s : Int) : Int → Int := dgT dt T (dwN (dwN s)) (dwV (dwN s) (T 0)) (dwV (dwN (dwN s)) 6)
def dgSZ (T : Int → Int) (s : Int) : Int := dgZ T (dwN (dwN s)) (dwV (dwN s) (T 0)) (dwV (dwN (dwN s)) 6)
def dgN (dt : Int) (T : Int → Int) (s : Int) : Nat → (Int → Int) × Int
  | 0 => (T, s)
  | n + 1 => (dgST dt (dgN dt T s n).1 (dgN dt T s n).2, dgSZ (dgN dt T s n).1 (dgN dt T s n).2)
def dgNT (dt : Int) (T : Int → Int) (s : Int) (n : Nat) : Int → Int := (dgN dt T s n).1
def dgNZ (dt : Int) (T : Int → Int) (s : Int) (n : Nat) : Int := (dgN dt T s n).2
theorem dgNT_0 {dt : Int} {T : Int → Int} {s : Int} : dgNT dt T s 0 = T := rfl
theorem dgNZ_0 {dt : Int} {T : Int → Int} {s : Int} : dgNZ dt T s 0 = s := rfl
theorem dgNT_s {dt : Int} {T : Int → Int} {s : Int} {n : Nat} : dgNT dt T s (n + 1) = dgST dt (dgNT dt T s n) (dgNZ dt T s n) := rfl
theorem dgNZ_s {dt : Int} {T : Int → Int} {s : Int} {n : Nat} : dgNZ dt T s (n + 1) = dgSZ (dgNT dt T s n) (dgNZ dt T s n) := rfl
section DRW
variable {T : Int → Int} {h : Hp} {o : Nat} {z d m n dt dt' s k : Int} {ws r : Int → Int}
/-- of a document's last version -/
theorem AW.last (W : AW T) (d0 : 0 ≤ d) (d1 : d < T 0) : vvT T d (T (1 + d) - 1) ∧ (0 ≤ lnT T d (T (1 + d) - 1) ∧ lnT T d (T (1 + d) - 1) ≤ 20) ∧ 1 ≤ T (1 + d) ∧ T (1 + d) ≤ 10 := by
  have h1 := W.2.1 d d0 d1
  have hv : vvT T d (T (1 + d) - 1) := ⟨d0, d1, by omega, by omega⟩
  exact ⟨hv, W.ln hv, h1⟩
theorem fst_rg : fstT T d = -1 ∨ (0 ≤ fstT T d ∧ fstT T d < T 5) := by
  unfold fstT
  rcases fiZ_spec (T 5) (fun t => decide (owT T t = d)) with ⟨e1, _⟩ | ⟨e1, e2, _, _⟩
  · exact Or.inl e1
  · exact Or.inr ⟨e1, e2⟩
theorem AW.wf_wrg (W : AW T) {t : Int} (t0 : 0 ≤ t) (t1 : t < T 5) : wrg (wdT T t) := by
  have := W.2.2.2.2.2.2.2 t t0 t1
  exact ⟨this.2.2.1, this.2.2.2.1, this.2.2.2.2.1⟩
/-- a turn keeps it well formed, and makes at most one token -/
theorem dgT_ok (W : AW T) (h5 : T 5 ≤ 318) (d0 : 0 ≤ d) (d1 : d < T 0) : AW (dgT dt T s d k) ∧ dgT dt T s d k 0 = T 0 ∧ dgT dt T s d k 5 ≤ T 5 + 1 := by
  obtain ⟨hv, hl, hn⟩ := W.last d0 d1
  have n0 := W.n0
  have same : AW T ∧ T 0 = T 0 ∧ T 5 ≤ T 5 + 1 := ⟨W, rfl, by omega⟩
  have made : ∀ {m n : Int} {ws r : Int → Int}, m ≤ 1 → VK T 0 d m ws n r → AW (mkT T 0 d m ws n r dt) ∧ mkT T 0 d m ws n r dt 0 = T 0 ∧ mkT T 0 d m ws n r dt 5 ≤ T 5 + 1 := fun m1 K => ⟨mk_AW W K, by rw [mk_0, Int.add_zero], by rw [mk_5 K.2.1]; omega⟩
  unfold dgT
  by_cases c1 : k < 2
  · rw [if_pos c1]
    by_cases c2 : lnT T d (T (1 + d) - 1) ≤ 0
    · rw [if_pos c2]
      exact same
    · rw [if_neg c2]
      by_cases c3 : 10 ≤ T (1 + d)
      · rw [if_pos c3]
        exact same
      · rw [if_neg c3]
        have v := dwV_rg (z := dwN s) (n := lnT T d (T (1 + d) - 1)) (by omega) (by omega)
        exact made (by omega) (VK_cut (ws := fun _ => 0) (c := 1) W hv (by omega) v.1 (by omega) (by omega))
  · rw [if_neg c1]
    by_cases c2 : k < 4
    · rw [if_pos c2]
      by_cases c3 : fstT T d = -1
      · rw [if_pos c3]
        exact same
      · rw [if_neg c3]
        by_cases c4 : 10 ≤ T (1 + d)
        · rw [if_pos c4]
          exact same
        · rw [if_neg c4]
          by_cases c5 : 20 ≤ lnT T d (T (1 + d) - 1)
          · rw [if_pos c5]
            exact same
          · rw [if_neg c5]
            have v := dwV_rg (z := dwN s) (n := lnT T d (T (1 + d) - 1) + 1) (by omega) (by omega)
            have ft := (fst_rg (T := T) (d := d)).resolve_left c3
            exact made (by omega) (VK_put (ws := fun _ => wdT T (fstT T d)) W hv (by omega) v.1 (by omega) (by omega) (by omega) (by omega) (fun i _ _ => W.wf_wrg ft.1 ft.2))
    · rw [if_neg c2]
      by_cases c3 : k = 4
      · rw [if_pos c3]
        by_cases c2 : lnT T d (T (1 + d) - 1) ≤ 0
        · rw [if_pos c2]
          exact same
        · rw [if_neg c2]
          by_cases c3 : 10 ≤ T (1 + d)
          · rw [if_pos c3]
            exact same
          · rw [if_neg c3]
            have v := dwV_rg (z := dwN s) (n := lnT T d (T (1 + d) - 1)) (by omega) (by omega)
            have v2 := dwV_rg (z := dwN (dwN s)) (n := lnT T d (T (1 + d) - 1)) (by omega) (by omega)
            exact made (by omega) (VK_mov (ws := fun _ => 0) W hv (by omega) v.1 v.2 v2.1 v2.2)
      · rw [if_neg c3]
        by_cases c4 : 10 ≤ T (1 + d)
        · rw [if_pos c4]
          exact same
        · rw [if_neg c4]
          have v := dwV_rg (z := dwN s) (n := T (1 + d)) (by omega) (by omega)
          have hv2 : vvT T d (dwV (dwN s) (T (1 + d))) := ⟨d0, d1, v.1, v.2⟩
          exact made (by omega) (VK_bck (ws := fun _ => 0) W hv2 (by omega))
theorem dgST_ok (W : AW T) (h5 : T 5 ≤ 318) (t0 : 1 ≤ T 0) : AW (dgST dt T s) ∧ dgST dt T s 0 = T 0 ∧ dgST dt T s 5 ≤ T 5 + 1 := by
  have n0 := W.n0
  have v := dwV_rg (z := dwN s) (n := T 0) (by omega) (by omega)
  exact dgT_ok W h5 v.1 v.2
theorem dgN_ok (W : AW T) (h5 : T 5 ≤ 279) (t0 : 1 ≤ T 0) : ∀ j : Nat, j ≤ 40 → AW (dgNT dt T s j) ∧ dgNT dt T s j 0 = T 0 ∧ dgNT dt T s j 5 ≤ T 5 + j := by
  intro j
  induction j with
  | zero =>
    intro _
    rw [dgNT_0]
    exact ⟨W, rfl, by omega⟩
  | succ j ih =>
    intro hj
    obtain ⟨a1, a2, a3⟩ := ih (by omega)
    obtain ⟨b1, b2, b3⟩ := dgST_ok (dt := dt) (s := dgNZ dt T s j) a1 (by omega) (by omega)
    rw [dgNT_s]
    exact ⟨b1, b2.trans a2, by omega⟩
/-- the date of what is made isn't in the class's picture -/
theorem mk_date (G : MG T d m n) {k : Int} (c : k < 6 ∨ 46 ≤ k) : mkT T z d m ws n r dt k = mkT T z d m ws n r dt' k := by
  obtain ⟨⟨g1, g2⟩, ⟨g3, g4⟩, g5, ⟨g6, g7⟩, g8, g9⟩ := G
  have hne : ¬ k = 6 + slV T d := by
    unfold slV
    omega
  unfold mkT
  simp only [if_neg hne]
theorem CA.dated (W : AW T) (K : VK T z d m ws n r) (H : CA h o (mkT T z d m ws n r dt)) : CA h o (mkT T z d m ws n r dt') := by
  have G := K.2.1
  have W1 := mk_AW (dt := dt) W K
  have W2 := mk_AW (dt := dt') W K
  have vb : ∀ e v, vvT (mkT T z d m ws n r dt') e v → vvT (mkT T z d m ws n r dt) e v := fun e v q => (mk_vv W K).mpr ((mk_vv W K).mp q)
  have ln : ∀ e v, vvT (mkT T z d m ws n r dt) e v → lnT (mkT T z d m ws n r dt') e v = lnT (mkT T z d m ws n r dt) e v := fun e v q => by
    have := W1.vb q
    exact mk_date G (by omega)
  obtain ⟨a1, a2, a3, a4, a5, a6, a7, a8⟩ := H
  refine ⟨a1, W2, ?_, ?_, fun e e0 e1 => ?_, fun e v hv => ?_, fun e v q hq => ?_, fun t t0 t1 => ?_⟩
  · rw [a3]
    exact mk_date G (by omega)
  · rw [a4]
    exact mk_date G (by omega)
  · rw [a5 e e0 e1]
    exact mk_date G (by omega)
  · rw [a6 e v (vb e v hv), ln e v (vb e v hv)]
  · have q1 := vb e v hq.1
    have q2 := hq.2
    rw [ln e v q1] at q2
    have b := W1.vb q1
    rw [a7 e v q ⟨q1, q2⟩]
    exact mk_date G (by omega)
  · have e5 : mkT T z d m ws n r dt' 5 = mkT T z d m ws n r dt 5 := mk_date G (by omega)
    rw [e5] at t1
    have t5 := W1.n5
    obtain ⟨b1, b2, b3⟩ := a8 t t0 t1
    have w1 : wdT (mkT T z d m ws n r dt) t = wdT (mkT T z d m ws n r dt') t := mk_date G (by omega)
    have w2 : owT (mkT T z d m ws n r dt) t = owT (mkT T z d m ws n r dt') t := mk_date G (by omega)
    rw [mk_5 G] at t1
    refine ⟨by rw [b1, w1], by rw [b2, w2], ?_⟩
    rw [b3, mk_st W K t0 t1, mk_st W K t0 t1]
end DRW
