/-! PURE PART: a further version, as a row of integers -/
def slV (T : Int → Int) (d : Int) : Int := 10 * d + T (1 + d)
/-- T with one version more of document d (a further one where z is 1): m further tokens, words ws, n of them in the row r -/
def mkT (T : Int → Int) (z d m : Int) (ws : Int → Int) (n : Int) (r : Int → Int) (dt : Int) : Int → Int := fun k =>
  if k = 0 then T 0 + z else if k = 1 + d then T (1 + d) + 1 else if k = 5 then T 5 + m else if k = 6 + slV T d then dt else if k = 46 + slV T d then n
  else if 86 + 20 * slV T d ≤ k ∧ k < 86 + 20 * slV T d + n then r (k - (86 + 20 * slV T d))
  else if 886 + T 5 ≤ k ∧ k < 886 + T 5 + m then ws (k - (886 + T 5))
  else if 1206 + T 5 ≤ k ∧ k < 1206 + T 5 + m then d else T k
/-- the numbers are such that cells keep apart -/
def MG (T : Int → Int) (d m n : Int) : Prop := (0 ≤ d ∧ d < 4) ∧ (0 ≤ T (1 + d) ∧ T (1 + d) ≤ 9) ∧ 0 ≤ T 5 ∧ (0 ≤ m ∧ T 5 + m ≤ 319) ∧ 0 ≤ n ∧ n ≤ 20
/-- what must hold for it -/
def VK (T : Int → Int) (z d m : Int) (ws : Int → Int) (n : Int) (r : Int → Int) : Prop := ((z = 0 ∧ 0 ≤ d ∧ d < T 0) ∨ (z = 1 ∧ d = T 0 ∧ T 0 < 4)) ∧ MG T d m n ∧ (∀ q, 0 ≤ q → q < n → 0 ≤ r q ∧ r q < T 5 + m ∧ (r q < T 5 → owT T (r q) = d)) ∧ (∀ q p, 0 ≤ q → q < n → 0 ≤ p → p < n → r q = r p → q = p) ∧ (∀ i, 0 ≤ i → i < m → ∃ q, 0 ≤ q ∧ q < n ∧ r q = T 5 + i) ∧ ∀ i, 0 ≤ i → i < m → wrg (ws i)
section MK
variable {T : Int → Int} {z d m n dt : Int} {ws r : Int → Int}
theorem mk_0 : mkT T z d m ws n r dt 0 = T 0 + z := if_pos rfl
theorem mk_n (G : MG T d m n) {e : Int} (he : 0 ≤ e) (he2 : e < 4) : mkT T z d m ws n r dt (1 + e) = if e = d then T (1 + d) + 1 else T (1 + e) := by
  obtain ⟨⟨g1, g2⟩, ⟨g3, g4⟩, g5, ⟨g6, g7⟩, g8, g9⟩ := G
  unfold mkT slV
  by_cases hc : e = d
  · simp (disch := omega) only [eT, eF, aT, aF]
  · simp (disch := omega) only [eT, eF, aT, aF]
theorem mk_5 (G : MG T d m n) : mkT T z d m ws n r dt 5 = T 5 + m := by
  obtain ⟨⟨g1, g2⟩, ⟨g3, g4⟩, g5, ⟨g6, g7⟩, g8, g9⟩ := G
  unfold mkT slV
  simp (disch := omega) only [eT, eF, aT, aF, if_true]
theorem mk_dt (G : MG T d m n) {e v : Int} (he : 0 ≤ e) (he2 : e < 4) (hv : 0 ≤ v) (hv2 : v < 10) : dtT (mkT T z d m ws n r dt) e v = if e = d ∧ v = T (1 + d) then dt else dtT T e v := by
  obtain ⟨⟨g1, g2⟩, ⟨g3, g4⟩, g5, ⟨g6, g7⟩, g8, g9⟩ := G
  unfold dtT mkT slV
  by_cases hc : e = d ∧ v = T (1 + d)
  · rw [if_pos hc]
    simp (disch := omega) only [eT, eF, aT, aF]
  · rw [if_neg hc]
    simp (disch := omega) only [eT, eF, aT, aF]
theorem mk_ln (G : MG T d m n) {e v : Int} (he : 0 ≤ e) (he2 : e < 4) (hv : 0 ≤ v) (hv2 : v < 10) : lnT (mkT T z d m ws n r dt) e v = if e = d ∧ v = T (1 + d) then n else lnT T e v := by
  obtain ⟨⟨g1, g2⟩, ⟨g3, g4⟩, g5, ⟨g6, g7⟩, g8, g9⟩ := G
  unfold lnT mkT slV
  by_cases hc : e = d ∧ v = T (1 + d)
  · rw [if_pos hc]
    simp (disch := omega) only [eT, eF, aT, aF]
  · rw [if_neg hc]
    simp (disch := omega) only [eT, eF, aT, aF]
theorem mk_rw (G : MG T d m n) {e v q : Int} (he : 0 ≤ e) (he2 : e < 4) (hv : 0 ≤ v) (hv2 : v < 10) (hq : 0 ≤ q) (hq2 : q < 20) : rwT (mkT T z d m ws n r dt) e v q = if (e = d ∧ v = T (1 + d)) ∧ q < n then r q else rwT T e v q := by
  obtain ⟨⟨g1, g2⟩, ⟨g3, g4⟩, g5, ⟨g6, g7⟩, g8, g9⟩ := G
  unfold rwT mkT slV
  by_cases hc : e = d ∧ v = T (1 + d)
  · by_cases hn : q < n
    · have hR : (e = d ∧ v = T (1 + d)) ∧ q < n := ⟨hc, hn⟩
      rw [if_pos hR]
      have e1 : 86 + 20 * (10 * e + v) + q - (86 + 20 * (10 * d + T (1 + d))) = q := by omega
      simp (disch := omega) only [eT, eF, aT, aF, e1]
    · have hR : ¬ ((e = d ∧ v = T (1 + d)) ∧ q < n) := fun y => hn y.2
      rw [if_neg hR]
      simp (disch := omega) only [eT, eF, aT, aF]
  · have hR : ¬ ((e = d ∧ v = T (1 + d)) ∧ q < n) := fun y => hc y.1
    rw [if_neg hR]
    simp (disch := omega) only [eT, eF, aT, aF]
theorem mk_wd (G : MG T d m n) {t : Int} (ht : 0 ≤ t) (ht2 : t < 320) : wdT (mkT T z d m ws n r dt) t = if T 5 ≤ t ∧ t < T 5 + m then ws (t - T 5) else wdT T t := by
  obtain ⟨⟨g1, g2⟩, ⟨g3, g4⟩, g5, ⟨g6, g7⟩, g8, g9⟩ := G
  unfold wdT mkT slV
  by_cases hc : T 5 ≤ t ∧ t < T 5 + m
  · rw [if_pos hc]
    have e1 : 886 + t - (886 + T 5) = t - T 5 := by omega
    simp (disch := omega) only [eT, eF, aT, aF, e1]
  · rw [if_neg hc]
    simp (disch := omega) only [eT, eF, aT, aF]
theorem mk_ow (G : MG T d m n) {t : Int} (ht : 0 ≤ t) (ht2 : t < 320) : owT (mkT T z d m ws n r dt) t = if T 5 ≤ t ∧ t < T 5 + m then d else owT T t := by
  obtain ⟨⟨g1, g2⟩, ⟨g3, g4⟩, g5, ⟨g6, g7⟩, g8, g9⟩ := G
  unfold owT mkT slV
  by_cases hc : T 5 ≤ t ∧ t < T 5 + m
  · rw [if_pos hc]
    simp (disch := omega) only [eT, eF, aT, aF]
  · rw [if_neg hc]
    simp (disch := omega) only [eT, eF, aT, aF]
theorem mk_vv (W : AW T) (K : VK T z d m ws n r) {e v : Int} : vvT (mkT T z d m ws n r dt) e v ↔ vvT T e v ∨ (e = d ∧ v = T (1 + d)) := by
  have h0 := W.n0
  have G := K.2.1
  have g := G
  obtain ⟨⟨g1, g2⟩, ⟨g3, g4⟩, g5, ⟨g6, g7⟩, g8, g9⟩ := g
  unfold vvT
  rw [mk_0]
  by_cases he : 0 ≤ e ∧ e < 4
  · rw [mk_n G he.1 he.2]
    by_cases hc : e = d
    · rw [if_pos hc, hc]
      have := W.2.2.1 d
      rcases K.1 with k | k
      · omega
      · have := this (by omega) (by omega)
        omega
    · rw [if_neg hc]
      rcases K.1 with k | k
      · omega
      · omega
  · rcases K.1 with k | k <;> omega
/-- all but the new version is as it was -/
theorem mk_old (W : AW T) (K : VK T z d m ws n r) {e v : Int} (hv : vvT T e v) : ¬ (e = d ∧ v = T (1 + d)) := by
  rintro ⟨h1, h2⟩
  have := hv.2.2.2
  rw [h1] at this
  omega
theorem mk_AW (W : AW T) (K : VK T z d m ws n r) : AW (mkT T z d m ws n r dt) := by
  have h0 := W.n0
  have h5 := W.n5
  obtain ⟨k1, G, k3, k4, k5, k6⟩ := K
  have K : VK T z d m ws n r := ⟨k1, G, k3, k4, k5, k6⟩
  have g := G
  obtain ⟨⟨g1, g2⟩, ⟨g3, g4⟩, g5, ⟨g6, g7⟩, g8, g9⟩ := g
  have hvv : ∀ e v, vvT (mkT T z d m ws n r dt) e v → 0 ≤ e ∧ e < 4 ∧ 0 ≤ v ∧ v < 10 := fun e v hv => by
    rcases (mk_vv W K).mp hv with h | ⟨h1, h2⟩
    · exact W.vb h
    · omega
  have hln : ∀ e v, vvT (mkT T z d m ws n r dt) e v → lnT (mkT T z d m ws n r dt) e v = if e = d ∧ v = T (1 + d) then n else lnT T e v := fun e v hv => by
    have hb := hvv e v hv
    exact mk_ln G hb.1 hb.2.1 hb.2.2.1 hb.2.2.2
  have hlr : ∀ e v, vvT (mkT T z d m ws n r dt) e v → 0 ≤ lnT (mkT T z d m ws n r dt) e v ∧ lnT (mkT T z d m ws n r dt) e v ≤ 20 := fun e v hv => by
    rw [hln e v hv]
    by_cases hc : e = d ∧ v = T (1 + d)
    · rw [if_pos hc]
      exact ⟨g8, g9⟩
    · rw [if_neg hc]
      rcases (mk_vv W K).mp hv with h | h
      · exact W.ln h
      · exact absurd h hc
  have hrw : ∀ e v q, ppT (mkT T z d m ws n r dt) e v q → rwT (mkT T z d m ws n r dt) e v q = if e = d ∧ v = T (1 + d) then r q else rwT T e v q := fun e v q hp => by
    have hb := hvv e v hp.1
    have hl := hlr e v hp.1
    have hq := hp.2
    rw [mk_rw G hb.1 hb.2.1 hb.2.2.1 hb.2.2.2 hq.1 (by omega)]
    by_cases hc : e = d ∧ v = T (1 + d)
    · have := hln e v hp.1
      rw [if_pos hc] at this
      rw [if_pos hc, if_pos ⟨hc, by omega⟩]
    · rw [if_neg hc, if_neg (fun y => hc y.1)]
  have hpp : ∀ e v q, ppT (mkT T z d m ws n r dt) e v q → (e = d ∧ v = T (1 + d) ∧ 0 ≤ q ∧ q < n) ∨ (¬ (e = d ∧ v = T (1 + d)) ∧ ppT T e v q) := fun e v q hp => by
    have hl := hln e v hp.1
    have hq := hp.2
    by_cases hc : e = d ∧ v = T (1 + d)
    · rw [if_pos hc] at hl
      exact Or.inl ⟨hc.1, hc.2, hq.1, by omega⟩
    · rw [if_neg hc] at hl
      rcases (mk_vv W K).mp hp.1 with h | h
      · exact Or.inr ⟨hc, h, hq.1, by omega⟩
      · exact absurd h hc
  have how : ∀ t, 0 ≤ t → t < T 5 + m → owT (mkT T z d m ws n r dt) t = if T 5 ≤ t then d else owT T t := fun t t0 t1 => by
    rw [mk_ow G t0 (by omega)]
    by_cases hc : T 5 ≤ t
    · rw [if_pos hc, if_pos ⟨hc, t1⟩]
    · rw [if_neg hc, if_neg (fun y => hc y.1)]
  refine ⟨?_, fun e e0 e1 => ?_, fun e e0 e1 => ?_, ?_, hlr, fun e v q hp => ?_, fun e v q p hp hp2 he => ?_, fun t t0 t1 => ?_⟩
  · rw [mk_0]
    rcases k1 with k | k <;> omega
  · rw [mk_0] at e1
    have he4 : e < 4 := by rcases k1 with k | k <;> omega
    rw [mk_n G e0 he4]
    by_cases hc : e = d
    · rw [if_pos hc]
      omega
    · rw [if_neg hc]
      refine W.2.1 e e0 ?_
      rcases k1 with k | k <;> omega
  · rw [mk_0] at e0
    have he0 : 0 ≤ e := by rcases k1 with k | k <;> omega
    rw [mk_n G he0 e1, if_neg (by rcases k1 with k | k <;> omega)]
    exact W.2.2.1 e (by rcases k1 with k | k <;> omega) e1
  · rw [mk_5 G]
    omega
  · rw [hrw e v q hp, mk_5 G]
    rcases hpp e v q hp with ⟨c1, c2, c3, c4⟩ | ⟨c1, c2⟩
    · rw [if_pos ⟨c1, c2⟩]
      have := k3 q c3 c4
      refine ⟨this.1, this.2.1, ?_⟩
      rw [how _ this.1 this.2.1, c1]
      by_cases hc : T 5 ≤ r q
      · rw [if_pos hc]
      · rw [if_neg hc]
        exact this.2.2 (by omega)
    · rw [if_neg c1]
      have := W.rw c2
      refine ⟨this.1, by omega, ?_⟩
      rw [how _ this.1 (by omega), if_neg (by omega)]
      exact this.2.2
  · rw [hrw e v q hp, hrw e v p hp2] at he
    rcases hpp e v q hp with ⟨c1, c2, c3, c4⟩ | ⟨c1, c2⟩
    · rw [if_pos ⟨c1, c2⟩, if_pos ⟨c1, c2⟩] at he
      rcases hpp e v p hp2 with ⟨_, _, d3, d4⟩ | ⟨d1, _⟩
      · exact k4 q p c3 c4 d3 d4 he
      · exact absurd ⟨c1, c2⟩ d1
    · rw [if_neg c1, if_neg c1] at he
      rcases hpp e v p hp2 with ⟨d1, d2, _⟩ | ⟨_, d2⟩
      · exact absurd ⟨d1, d2⟩ c1
      · exact W.2.2.2.2.2.2.1 e v q p c2 d2 he
  · rw [mk_5 G] at t1
    rw [mk_0, how t t0 t1, mk_wd G t0 (by omega)]
    by_cases hc : T 5 ≤ t
    · rw [if_pos hc, if_pos ⟨hc, t1⟩]
      have hw := k6 (t - T 5) (by omega) (by omega)
      obtain ⟨q, q0, q1, q2⟩ := k5 (t - T 5) (by omega) (by omega)
      have hv : vvT (mkT T z d m ws n r dt) d (T (1 + d)) := (mk_vv W K).mpr (Or.inr ⟨rfl, rfl⟩)
      have hl := hln d (T (1 + d)) hv
      rw [if_pos ⟨rfl, rfl⟩] at hl
      have hp : ppT (mkT T z d m ws n r dt) d (T (1 + d)) q := ⟨hv, q0, by omega⟩
      refine ⟨g1, by rcases k1 with k | k <;> omega, hw.1, hw.2.1, hw.2.2, T (1 + d), hv, inV_iff.mpr ⟨q, q0, by omega, ?_⟩⟩
      rw [hrw _ _ _ hp, if_pos ⟨rfl, rfl⟩, q2]
      omega
    · rw [if_neg hc, if_neg (fun y => hc y.1)]
      obtain ⟨w1, w2, w3, w4, w5, v, hv, hi⟩ := W.2.2.2.2.2.2.2 t t0 (by omega)
      have hv2 : vvT (mkT T z d m ws n r dt) (owT T t) v := (mk_vv W K).mpr (Or.inl hv)
      have hno := mk_old W K hv
      have hl := hln _ v hv2
      rw [if_neg hno] at hl
      obtain ⟨q, q0, q1, q2⟩ := inV_iff.mp hi
      refine ⟨w1, by rcases k1 with k | k <;> omega, w3, w4, w5, v, hv2, inV_iff.mpr ⟨q, q0, by omega, ?_⟩⟩
      rw [hrw _ _ q ⟨hv2, q0, by omega⟩, if_neg hno]
      exact q2
/-- in which versions a token is then -/
theorem mk_st (W : AW T) (K : VK T z d m ws n r) {t : Int} (t0 : 0 ≤ t) (t1 : t < T 5 + m) : stT (mkT T z d m ws n r dt) t = (if t < T 5 then stT T t else 0) ||| (if anyZ n (fun q => decide (r q = t)) = true then 2 ^ (T (1 + d)).toNat else 0) := by
  have h0 := W.n0
  obtain ⟨k1, G, k3, k4, k5, k6⟩ := K
  have K : VK T z d m ws n r := ⟨k1, G, k3, k4, k5, k6⟩
  have g := G
  obtain ⟨⟨g1, g2⟩, ⟨g3, g4⟩, g5, ⟨g6, g7⟩, g8, g9⟩ := g
  have how : owT (mkT T z d m ws n r dt) t = if T 5 ≤ t then d else owT T t := by
    rw [mk_ow G t0 (by omega)]
    by_cases hc : T 5 ≤ t
    · rw [if_pos hc, if_pos ⟨hc, t1⟩]
    · rw [if_neg hc, if_neg (fun y => hc y.1)]
  have hown : t < T 5 → 0 ≤ owT T t ∧ owT T t < T 0 := fun h => by
    have := W.2.2.2.2.2.2.2 t t0 h
    exact ⟨this.1, this.2.1⟩
  -- where it is in a version
  have hin : ∀ e v, 0 ≤ e → e < 4 → 0 ≤ v → v < 10 → inV (mkT T z d m ws n r dt) e v t = if e = d ∧ v = T (1 + d) then anyZ n (fun q => decide (r q = t)) else anyZ (lnT T e v) (fun q => decide ((if q < 20 then rwT T e v q else rwT (mkT T z d m ws n r dt) e v q) = t)) := by
    intro e v e0 e1 v0 v1
    unfold inV
    rw [mk_ln G e0 e1 v0 v1]
    by_cases hc : e = d ∧ v = T (1 + d)
    · rw [if_pos hc, if_pos hc]
      refine anyZ_congr (fun q q0 q1 => ?_)
      rw [mk_rw G e0 e1 v0 v1 q0 (by omega), if_pos ⟨hc, q1⟩]
    · rw [if_neg hc, if_neg hc]
      refine anyZ_congr (fun q q0 q1 => ?_)
      by_cases hq : q < 20
      · rw [if_pos hq, mk_rw G e0 e1 v0 v1 q0 hq, if_neg (fun y => hc y.1)]
      · rw [if_neg hq]
  have hin2 : ∀ e v, vvT T e v → inV (mkT T z d m ws n r dt) e v t = inV T e v t := by
    intro e v hv
    have hb := W.vb hv
    have hl := W.ln hv
    rw [hin e v hb.1 hb.2.1 hb.2.2.1 hb.2.2.2, if_neg (mk_old W K hv)]
    unfold inV
    exact anyZ_congr (fun q q0 q1 => by rw [if_pos (by omega)])
  refine Nat.eq_of_testBit_eq (fun i => ?_)
  rw [Nat.testBit_or]
  unfold stT
  rw [setN_bit, how]
  by_cases hc : T 5 ≤ t
  · rw [if_pos hc, if_neg (by omega), Nat.zero_testBit, Bool.false_or, mk_n G g1 g2, if_pos rfl]
    by_cases hi : (i : Int) < T (1 + d)
    · -- an earlier version has no new token
      have hvv : vvT T d i := by
        rcases k1 with k | k
        · exact ⟨k.2.1, k.2.2, by omega, hi⟩
        · have := W.2.2.1 d (by omega) (by omega)
          omega
      rw [hin2 d i hvv]
      have hno : inV T d i t = false := by
        cases hz : inV T d i t
        · rfl
        · obtain ⟨q, q0, q1, q2⟩ := inV_iff.mp hz
          have := W.rw (d := d) (v := i) (q := q) ⟨hvv, q0, q1⟩
          omega
      rw [hno, Bool.and_false]
      split
      · rw [Nat.testBit_two_pow]
        exact (decide_eq_false (by omega)).symm
      · rw [Nat.zero_testBit]
    · by_cases hi2 : (i : Int) = T (1 + d)
      · rw [hin d i g1 g2 (by omega) (by omega), if_pos ⟨rfl, hi2⟩, decide_eq_true (by omega), Bool.true_and]
        cases hz : anyZ n (fun q => decide (r q = t))
        · rw [if_neg (by decide), Nat.zero_testBit]
        · rw [if_pos rfl, Nat.testBit_two_pow]
          exact (decide_eq_true (by omega)).symm
      · rw [decide_eq_false (by omega), Bool.false_and]
        split
        · rw [Nat.testBit_two_pow]
          exact (decide_eq_false (by omega)).symm
        · rw [Nat.zero_testBit]
  · rw [if_neg hc, if_pos (by omega), setN_bit]
    have ho := hown (by omega)
    rw [mk_n G ho.1 (by omega)]
    by_cases hd : owT T t = d
    · rw [if_pos hd, hd]
      have hz0 : z = 0 ∧ 0 ≤ d ∧ d < T 0 := by rcases k1 with k | k <;> omega
      by_cases hi : (i : Int) < T (1 + d)
      · have hvv : vvT T d i := ⟨g1, hz0.2.2, by omega, hi⟩
        rw [hin2 d i hvv, decide_eq_true (by omega), decide_eq_true (by omega)]
        have : (if anyZ n (fun q => decide (r q = t)) = true then 2 ^ (T (1 + d)).toNat else 0).testBit i = false := by
          split
          · rw [Nat.testBit_two_pow]
            exact decide_eq_false (by omega)
          · rw [Nat.zero_testBit]
        rw [this, Bool.or_false]
      · by_cases hi2 : (i : Int) = T (1 + d)
        · rw [hin d i g1 g2 (by omega) (by omega), if_pos ⟨rfl, hi2⟩, decide_eq_true (by omega), decide_eq_false (by omega), Bool.true_and, Bool.false_and, Bool.false_or]
          cases hz : anyZ n (fun q => decide (r q = t))
          · rw [if_neg (by decide), Nat.zero_testBit]
          · rw [if_pos rfl, Nat.testBit_two_pow]
            exact (decide_eq_true (by omega)).symm
        · rw [decide_eq_false (by omega), decide_eq_false (by omega), Bool.false_and, Bool.false_and, Bool.false_or]
          split
          · rw [Nat.testBit_two_pow]
            exact (decide_eq_false (by omega)).symm
          · rw [Nat.zero_testBit]
    · rw [if_neg hd]
      have hno : anyZ n (fun q => decide (r q = t)) = false := anyZ_F.mpr (fun q q0 q1 => decide_eq_false (fun y => by
        have := (k3 q q0 q1).2.2 (by omega)
        rw [y] at this
        exact hd this))
      rw [hno, if_neg (by decide), Nat.zero_testBit, Bool.or_false]
      by_cases hi : (i : Int) < T (1 + owT T t)
      · rw [hin2 _ i ⟨ho.1, ho.2, by omega, hi⟩]
      · rw [decide_eq_false (by omega), Bool.false_and, Bool.false_and]
end MK
