/-! PURE PART: the reference's numbers of words -/
theorem wb_sar {n k : Nat} (hn : n < 2 ^ 63) (hk : k < 64) : lN n >>> ((nI k).toInt64 &&& 63) = lN (n / 2 ^ k) := by
  have h64 : n < 2 ^ 64 := Nat.lt_trans hn (by decide)
  rw [wb_c k hk]
  apply wb_inj
  rw [Int64.toBitVec_shiftRight, wb_tb, wb_tb, wb_tb, wb_sm k hk, BitVec.sshiftRight_eq', BitVec.sshiftRight_eq_of_msb_false (by
    rw [BitVec.msb_eq_false_iff_two_mul_lt, BitVec.toNat_ofNat, Nat.mod_eq_of_lt h64]
    have : (2 : Nat) * 2 ^ 63 = 2 ^ 64 := by decide
    omega)]
  apply BitVec.eq_of_toNat_eq
  rw [BitVec.toNat_ushiftRight, BitVec.toNat_ofNat, BitVec.toNat_ofNat, BitVec.toNat_ofNat, Nat.mod_eq_of_lt h64, Nat.mod_eq_of_lt (show k < 2 ^ 64 by omega), Nat.shiftRight_eq_div_pow, Nat.mod_eq_of_lt (Nat.lt_of_le_of_lt (Nat.div_le_self _ _) h64)]
theorem L_shr {m : Nat} {s : Int} (hm : m < 2 ^ 63) (h0 : 0 ≤ s) (h1 : s < 64) : lshrF (L m) (J s) = L (m / 2 ^ s.toNat) := by
  rw [J_nI2 h0]
  exact wb_sar hm (by omega)
/-- one byte more -/
def nbF (x : Int64) (v : Int32) (s : Int) : Int32 := if Int64.toInt32 (lshrF x (J s) &&& (255 : Int64)) = 0 then v else 27 * v + Int64.toInt32 (lshrF x (J s) &&& (255 : Int64)) - 96
section NB
variable {h : Hp}
theorem X12_numberOf_ok (x : Int64) : m_X12_numberOf x h = some (nbF x (nbF x (nbF x (nbF x 0 24) 16) 8) 0) := by
  have st : ∀ (k : Int32 × Int32 → Option Int32) (v : Int32) (s : Int), 0 ≤ s → s < 100 → b_X12_numberOf_5 x h (fun v2q v3q => k (v2q, v3q)) v (J s) = k (nbF x v s, J (s - 8)) := fun k v s s0 s1 => by
    unfold nbF b_X12_numberOf_5 j_X12_numberOf_38
    rw [show ((0 : Int32)) = J 0 from rfl, if_neg (show ¬ J s < J 0 from by rw [J_lt (by omega) (by omega) (by omega) (by omega)]; omega)]
    rw [lm8, J_add, show s + -8 = s - 8 by omega]
    by_cases c : Int64.toInt32 (lshrF x (J s) &&& (255 : Int64)) = J 0
    · rw [if_neg (fun q => q c), if_pos c]
    · rw [if_pos c, if_neg c]
  unfold m_X12_numberOf l_X12_numberOf_5
  refine loop_int (fun i => (if i = 0 then (0 : Int32) else if i = 1 then nbF x 0 24 else if i = 2 then nbF x (nbF x 0 24) 16 else if i = 3 then nbF x (nbF x (nbF x 0 24) 16) 8 else nbF x (nbF x (nbF x (nbF x 0 24) 16) 8) 0, J (24 - 8 * i))) 4 (by omega) (by omega) rfl (fun k i i0 i1 => ?_) (fun k => ?_)
  · refine (st k _ (24 - 8 * i) (by omega) (by omega)).trans ?_
    rw [show 24 - 8 * i - 8 = 24 - 8 * (i + 1) by omega]
    have : i = 0 ∨ i = 1 ∨ i = 2 ∨ i = 3 := by omega
    rcases this with rfl | rfl | rfl | rfl <;> rfl
  · show b_X12_numberOf_5 x h (fun v2q v3q => k (v2q, v3q)) (nbF x (nbF x (nbF x (nbF x 0 24) 16) 8) 0) (J (24 - 8 * 4)) = _
    unfold b_X12_numberOf_5
    rw [show ((0 : Int32)) = J 0 from rfl, if_pos (show J (24 - 8 * 4) < J 0 from by rw [J_lt (by omega) (by omega) (by omega) (by omega)]; omega)]
theorem nb_at {m : Nat} {v s : Int} (hm : m < 2 ^ 63) (s0 : 0 ≤ s) (s1 : s < 64) : nbF (L m) (J v) s = J (if m / 2 ^ s.toNat % 256 = 0 then v else 27 * v + ((m / 2 ^ s.toNat % 256 : Nat) : Int) - 96) := by
  have e : Int64.toInt32 (lshrF (L m) (J s) &&& (255 : Int64)) = J ((m / 2 ^ s.toNat % 256 : Nat) : Int) := by
    rw [L_shr hm s0 s1]
    have := wb_mask (n := m / 2 ^ s.toNat) (k := 8) (Nat.lt_of_le_of_lt (Nat.div_le_self _ _) (Nat.lt_trans hm (by decide))) (by decide)
    rw [show (255 : Int64) = L (2 ^ 8 - 1) from rfl]
    refine (congrArg Int64.toInt32 this).trans ?_
    rw [show (2 : Nat) ^ 8 = 256 by decide]
    exact L_toI32 _
  have hr : m / 2 ^ s.toNat % 256 < 256 := Nat.mod_lt _ (by decide)
  unfold nbF
  rw [e]
  generalize m / 2 ^ s.toNat % 256 = y at *
  by_cases c : y = 0
  · rw [if_pos c, c]
    exact if_pos rfl
  · rw [if_neg c, show ((0 : Int32)) = J 0 from rfl, if_neg (by
      rw [J_eq (by omega) (by omega) (by omega) (by omega)]
      omega)]
    rw [show (27 : Int32) = J 27 from rfl, show (96 : Int32) = J 96 from rfl, J_mul, J_add, J_sub]
/-- a word's number, as the reference reads it -/
theorem X12_numberOf_word {B : Int → Int} {f : Int} {n : Nat} (n1 : 1 ≤ n) (n4 : n ≤ 4) (hl : ∀ j : Nat, j < n → 97 ≤ B (f + j) ∧ B (f + j) ≤ 122) : m_X12_numberOf (ltI B f n) h = some (J (wdN B f n)) := by
  have hm := ltM_lt63 (n := n) (by omega) hl
  rw [X12_numberOf_ok, ltI_L (by omega) hl, show ((0 : Int32)) = J 0 from rfl, nb_at hm (by omega) (by omega), nb_at hm (by omega) (by omega), nb_at hm (by omega) (by omega), nb_at hm (by omega) (by omega)]
  refine congrArg (fun z => some (J z)) ?_
  rw [show (2 : Nat) ^ (24 : Int).toNat = 16777216 by decide, show (2 : Nat) ^ (16 : Int).toNat = 65536 by decide, show (2 : Nat) ^ (8 : Int).toNat = 256 by decide, show (2 : Nat) ^ (0 : Int).toNat = 1 by decide]
  have h0 := hl 0 (by omega)
  rw [show f + ((0 : Nat) : Int) = f by omega] at h0
  unfold wdN
  have : n = 1 ∨ n = 2 ∨ n = 3 ∨ n = 4 := by omega
  rcases this with rfl | rfl | rfl | rfl
  · have e : ltM B f 1 = (B f).toNat := by
      show 0 * 256 + (B (f + ((0 : Nat) : Int))).toNat = _
      rw [show f + ((0 : Nat) : Int) = f by omega]
      omega
    rw [e, if_pos (show ((1 : Nat) : Int) = 1 by omega)]
    rw [if_pos (show (B f).toNat / 16777216 % 256 = 0 by omega), if_pos (show (B f).toNat / 65536 % 256 = 0 by omega), if_pos (show (B f).toNat / 256 % 256 = 0 by omega), if_neg (show ¬ (B f).toNat / 1 % 256 = 0 by omega)]
    omega
  · have h1 := hl 1 (by omega)
    rw [show f + ((1 : Nat) : Int) = f + 1 by omega] at h1
    have e : ltM B f 2 = (B f).toNat * 256 + (B (f + 1)).toNat := by
      show (0 * 256 + (B (f + ((0 : Nat) : Int))).toNat) * 256 + (B (f + ((1 : Nat) : Int))).toNat = _
      rw [show f + ((0 : Nat) : Int) = f by omega, show f + ((1 : Nat) : Int) = f + 1 by omega]
      omega
    rw [e, if_neg (show ¬ ((2 : Nat) : Int) = 1 by omega), if_pos (show ((2 : Nat) : Int) = 2 by omega)]
    generalize hM : (B f).toNat * 256 + (B (f + 1)).toNat = M
    rw [if_pos (show M / 16777216 % 256 = 0 by omega), if_pos (show M / 65536 % 256 = 0 by omega), if_neg (show ¬ M / 256 % 256 = 0 by omega), if_neg (show ¬ M / 1 % 256 = 0 by omega)]
    omega
  · have h1 := hl 1 (by omega)
    have h2 := hl 2 (by omega)
    rw [show f + ((1 : Nat) : Int) = f + 1 by omega] at h1
    rw [show f + ((2 : Nat) : Int) = f + 2 by omega] at h2
    have e : ltM B f 3 = ((B f).toNat * 256 + (B (f + 1)).toNat) * 256 + (B (f + 2)).toNat := by
      show ((0 * 256 + (B (f + ((0 : Nat) : Int))).toNat) * 256 + (B (f + ((1 : Nat) : Int))).toNat) * 256 + (B (f + ((2 : Nat) : Int))).toNat = _
      rw [show f + ((0 : Nat) : Int) = f by omega, show f + ((1 : Nat) : Int) = f + 1 by omega, show f + ((2 : Nat) : Int) = f + 2 by omega]
      omega
    rw [e, if_neg (show ¬ ((3 : Nat) : Int) = 1 by omega), if_neg (show ¬ ((3 : Nat) : Int) = 2 by omega), if_pos (show ((3 : Nat) : Int) = 3 by omega)]
    generalize hM : ((B f).toNat * 256 + (B (f + 1)).toNat) * 256 + (B (f + 2)).toNat = M
    rw [if_pos (show M / 16777216 % 256 = 0 by omega), if_neg (show ¬ M / 65536 % 256 = 0 by omega), if_neg (show ¬ M / 256 % 256 = 0 by omega), if_neg (show ¬ M / 1 % 256 = 0 by omega)]
    omega
  · have h1 := hl 1 (by omega)
    have h2 := hl 2 (by omega)
    have h3 := hl 3 (by omega)
    rw [show f + ((1 : Nat) : Int) = f + 1 by omega] at h1
    rw [show f + ((2 : Nat) : Int) = f + 2 by omega] at h2
    rw [show f + ((3 : Nat) : Int) = f + 3 by omega] at h3
    have e : ltM B f 4 = (((B f).toNat * 256 + (B (f + 1)).toNat) * 256 + (B (f + 2)).toNat) * 256 + (B (f + 3)).toNat := by
      show (((0 * 256 + (B (f + ((0 : Nat) : Int))).toNat) * 256 + (B (f + ((1 : Nat) : Int))).toNat) * 256 + (B (f + ((2 : Nat) : Int))).toNat) * 256 + (B (f + ((3 : Nat) : Int))).toNat = _
      rw [show f + ((0 : Nat) : Int) = f by omega, show f + ((1 : Nat) : Int) = f + 1 by omega, show f + ((2 : Nat) : Int) = f + 2 by omega, show f + ((3 : Nat) : Int) = f + 3 by omega]
      omega
    rw [e, if_neg (show ¬ ((4 : Nat) : Int) = 1 by omega), if_neg (show ¬ ((4 : Nat) : Int) = 2 by omega), if_neg (show ¬ ((4 : Nat) : Int) = 3 by omega)]
    generalize hM : (((B f).toNat * 256 + (B (f + 1)).toNat) * 256 + (B (f + 2)).toNat) * 256 + (B (f + 3)).toNat = M
    rw [if_neg (show ¬ M / 16777216 % 256 = 0 by omega), if_neg (show ¬ M / 65536 % 256 = 0 by omega), if_neg (show ¬ M / 256 % 256 = 0 by omega), if_neg (show ¬ M / 1 % 256 = 0 by omega)]
    omega
end NB
