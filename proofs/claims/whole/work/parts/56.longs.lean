/-! PURE PART: words of 64 bits (the first rows are pasted from the kit: laws/BITS.to-paste) -/
theorem wb_tb (n : Nat) : (lN n).toBitVec = BitVec.ofNat 64 n := rfl
theorem wb_inj {a b : Int64} (h : a.toBitVec = b.toBitVec) : a = b := Int64.toBitVec_inj.mp h
theorem wb_tn {n : Nat} (h : n < 2 ^ 64) : (lN n).toBitVec.toNat = n := by rw [wb_tb, BitVec.toNat_ofNat, Nat.mod_eq_of_lt h]
theorem wb_of (x : Int64) : ∃ n, n < 2 ^ 64 ∧ x = lN n := ⟨x.toBitVec.toNat, x.toBitVec.isLt, wb_inj (by rw [wb_tb]; simp)⟩
theorem wb_of32 (x : Int32) : ∃ n, n < 2 ^ 32 ∧ x = nI n := ⟨x.toBitVec.toNat, x.toBitVec.isLt, Int32.toBitVec_inj.mp (by show _ = BitVec.ofNat 32 _; simp)⟩
theorem wb_c : ∀ k, k < 64 → ((nI k).toInt64 &&& 63) = lN k := by decide +kernel
theorem wb_cu : ∀ k, k < 64 → ((nI k).toInt64.toUInt64 &&& Int64.toUInt64 63) = UInt64.ofNat k := by decide +kernel
theorem wb_sm : ∀ k, k < 64 → (BitVec.ofNat 64 k).smod 64 = BitVec.ofNat 64 k := by decide +kernel
theorem wb_pw {a b : Nat} (h : a ≤ b) : 2 ^ b = 2 ^ a * 2 ^ (b - a) := by rw [← Nat.pow_add]; congr 1; omega
theorem wb_lt2 {a b : Nat} (h : a < b) : 2 ^ a < 2 ^ b := Nat.pow_lt_pow_right (by decide) h
theorem wb_mod (n : Nat) : lN n = lN (n % 2 ^ 64) := wb_inj (by rw [wb_tb, wb_tb]; apply BitVec.eq_of_toNat_eq; rw [BitVec.toNat_ofNat, BitVec.toNat_ofNat, Nat.mod_mod])
theorem wb_shr {n k : Nat} (hn : n < 2 ^ 64) (hk : k < 64) : ((lN n).toUInt64 >>> ((nI k).toInt64.toUInt64 &&& Int64.toUInt64 63)).toInt64 = lN (n / 2 ^ k) := by
  rw [wb_cu k hk]
  apply wb_inj
  apply BitVec.eq_of_toNat_eq
  show ((lN n).toUInt64 >>> UInt64.ofNat k).toNat = (BitVec.ofNat 64 _).toNat
  have h1 : (UInt64.ofNat k).toNat = k := by
    show (BitVec.ofNat 64 k).toNat = k
    rw [BitVec.toNat_ofNat, Nat.mod_eq_of_lt (by omega)]
  have h2 : (lN n).toUInt64.toNat = n := wb_tn hn
  rw [UInt64.toNat_shiftRight, h1, h2, Nat.mod_eq_of_lt hk, Nat.shiftRight_eq_div_pow, BitVec.toNat_ofNat, Nat.mod_eq_of_lt (Nat.lt_of_le_of_lt (Nat.div_le_self _ _) hn)]
theorem wb_shl (n : Nat) {k : Nat} (hk : k < 64) : lN n <<< ((nI k).toInt64 &&& 63) = lN (n * 2 ^ k) := by
  rw [wb_c k hk]
  apply wb_inj
  rw [Int64.toBitVec_shiftLeft, wb_tb, wb_tb, wb_tb, wb_sm k hk]
  apply BitVec.eq_of_toNat_eq
  rw [BitVec.shiftLeft_eq', BitVec.toNat_shiftLeft, BitVec.toNat_ofNat, BitVec.toNat_ofNat, BitVec.toNat_ofNat, Nat.mod_eq_of_lt (show k < 2 ^ 64 by omega), Nat.shiftLeft_eq, Nat.mul_mod, Nat.mod_mod, ← Nat.mul_mod]
theorem wb_and {a b : Nat} (ha : a < 2 ^ 64) (hb : b < 2 ^ 64) : lN a &&& lN b = lN (a &&& b) := by
  apply wb_inj
  rw [Int64.toBitVec_and, wb_tb, wb_tb, wb_tb]
  apply BitVec.eq_of_toNat_eq
  rw [BitVec.toNat_and, BitVec.toNat_ofNat, BitVec.toNat_ofNat, BitVec.toNat_ofNat, Nat.mod_eq_of_lt ha, Nat.mod_eq_of_lt hb, Nat.mod_eq_of_lt (Nat.and_lt_two_pow _ hb)]
theorem wb_or {a b : Nat} (ha : a < 2 ^ 64) (hb : b < 2 ^ 64) : lN a ||| lN b = lN (a ||| b) := by
  apply wb_inj
  rw [Int64.toBitVec_or, wb_tb, wb_tb, wb_tb]
  apply BitVec.eq_of_toNat_eq
  rw [BitVec.toNat_or, BitVec.toNat_ofNat, BitVec.toNat_ofNat, BitVec.toNat_ofNat, Nat.mod_eq_of_lt ha, Nat.mod_eq_of_lt hb, Nat.mod_eq_of_lt (Nat.or_lt_two_pow ha hb)]
theorem wb_mask {n k : Nat} (hn : n < 2 ^ 64) (hk : k < 64) : lN n &&& lN (2 ^ k - 1) = lN (n % 2 ^ k) := by
  rw [wb_and hn (by have := wb_lt2 hk; omega), Nat.and_two_pow_sub_one_eq_mod]
theorem wb_a1 {n : Nat} (hn : n < 2 ^ 64) : lN n &&& 1 = lN (n % 2) := wb_mask (k := 1) hn (by decide)
theorem wb_bit {n k : Nat} (hn : n < 2 ^ 64) (hk : k < 64) : ((lN n).toUInt64 >>> ((nI k).toInt64.toUInt64 &&& Int64.toUInt64 63)).toInt64 &&& 1 = lN (n / 2 ^ k % 2) := by
  rw [wb_shr hn hk, wb_a1 (Nat.lt_of_le_of_lt (Nat.div_le_self _ _) hn)]
abbrev L (m : Nat) : Int64 := lN m
theorem J_nI (n : Nat) : J (n : Int) = nI n := Int32.ofInt_eq_ofNat
theorem J_nI2 {s : Int} (h : 0 ≤ s) : J s = nI s.toNat := by
  rw [← J_nI, Int.toNat_of_nonneg h]
theorem L_ushr {m : Nat} {s : Int} (hm : m < 2 ^ 64) (h0 : 0 ≤ s) (h1 : s < 64) : lushrF (L m) (J s) = L (m / 2 ^ s.toNat) := by
  rw [J_nI2 h0]
  exact wb_shr hm (by omega)
theorem L_shl {m : Nat} {s : Int} (h0 : 0 ≤ s) (h1 : s < 64) : lshlF (L m) (J s) = L (m * 2 ^ s.toNat) := by
  rw [J_nI2 h0]
  exact wb_shl m (by omega)
theorem L_and {a b : Nat} (ha : a < 2 ^ 64) (hb : b < 2 ^ 64) : L a &&& L b = L (a &&& b) := wb_and ha hb
theorem L_or {a b : Nat} (ha : a < 2 ^ 64) (hb : b < 2 ^ 64) : L a ||| L b = L (a ||| b) := wb_or ha hb
theorem L_toI64 {m : Nat} (h : m < 2 ^ 31) : Int32.toInt64 (J (m : Int)) = L m := by
  rw [J_nI]
  exact nI_l h
theorem L_toI32 (m : Nat) : Int64.toInt32 (L m) = J (m : Int) := by
  rw [J_nI]
  exact lN_i m
theorem L_eq {a b : Nat} (ha : a < 2 ^ 63) (hb : b < 2 ^ 63) : (L a = L b) = (a = b) := propext (pk_lEQ ha hb)
theorem ll0 : (0 : Int64) = L 0 := rfl
theorem ll1 : (1 : Int64) = L 1 := rfl
theorem lcmp {a b : Nat} (ha : a < 2 ^ 63) (hb : b < 2 ^ 63) : (lg_cmp (L a) (L b) = 0) = (a = b) := propext ((lg_cmp_eq _ _).trans (pk_lEQ ha hb))
theorem lbit {m : Nat} {s : Int} (hm : m < 2 ^ 62) (h0 : 0 ≤ s) (h1 : s < 64) : (lg_cmp ((lushrF (L m) (J s)) &&& (1 : Int64)) (1 : Int64) = 0) = (bt m s = true) := by
  rw [L_ushr (Nat.lt_trans hm (by decide)) h0 h1, ll1, L_and (Nat.lt_of_le_of_lt (Nat.div_le_self _ _) (Nat.lt_trans hm (by decide))) (by decide), lcmp (Nat.lt_of_le_of_lt Nat.and_le_right (by decide)) (by decide)]
  unfold bt
  rw [decide_eq_true h0, Bool.true_and, Nat.testBit_eq_decide_div_mod_eq, decide_eq_true_eq, show (1 : Nat) = 2 ^ 1 - 1 from rfl, Nat.and_two_pow_sub_one_eq_mod]
/-! how many bits of a word of 64 are set -/
theorem and_split {x y a c : Nat} (ha : a < 2 ^ 8) (hc : c < 2 ^ 8) : (2 ^ 8 * x + a) &&& (2 ^ 8 * y + c) = 2 ^ 8 * (x &&& y) + (a &&& c) := by
  refine Nat.eq_of_testBit_eq (fun i => ?_)
  rw [Nat.testBit_and, Nat.testBit_two_pow_mul_add _ ha, Nat.testBit_two_pow_mul_add _ hc, Nat.testBit_two_pow_mul_add _ (Nat.and_lt_two_pow _ hc)]
  by_cases h : i < 8
  · rw [if_pos h, if_pos h, if_pos h, Nat.testBit_and]
  · rw [if_neg h, if_neg h, if_neg h, Nat.testBit_and]
def mk5 : Nat → Nat
  | 0 => 0
  | k + 1 => 2 ^ 8 * mk5 k + 85
def mk3 : Nat → Nat
  | 0 => 0
  | k + 1 => 2 ^ 8 * mk3 k + 51
def mkF : Nat → Nat
  | 0 => 0
  | k + 1 => 2 ^ 8 * mkF k + 15
def s1N (k m : Nat) : Nat := m - (m / 2 &&& mk5 k)
def s2N (k m : Nat) : Nat := (s1N k m &&& mk3 k) + (s1N k m / 4 &&& mk3 k)
def s3N (k m : Nat) : Nat := (s2N k m + s2N k m / 16) &&& mkF k
def p1N (b : Nat) : Nat := b - (b / 2 &&& 85)
def p2N (b : Nat) : Nat := (p1N b &&& 51) + (p1N b / 4 &&& 51)
def p3N (b : Nat) : Nat := (p2N b + p2N b / 16) &&& 15
theorem p1_tab : ∀ b, b < 256 → ∀ x, x < 2 → (b / 2 + 128 * x) &&& 85 = b / 2 &&& 85 := by decide +kernel
theorem p1_le : ∀ b, b < 256 → (b / 2 &&& 85) ≤ b := by decide +kernel
theorem p2_tab : ∀ b, b < 256 → ∀ x, x < 4 → (b / 4 + 64 * x) &&& 51 = b / 4 &&& 51 := by decide +kernel
theorem p2_le : ∀ b, b < 256 → p2N b ≤ 68 ∧ p2N b % 16 ≤ 4 := by decide +kernel
theorem p3_tab : ∀ b, b < 256 → ∀ x, x < 5 → (p2N b + p2N b / 16 + 16 * x) &&& 15 = p3N b := by decide +kernel
theorem p3_bits : ∀ b, b < 256 → sumN 8 (fun i => b01 (b.testBit i)) = (p3N b : Int) ∧ p3N b ≤ 8 := by decide +kernel
theorem s1_step (k : Nat) {r b : Nat} (hb : b < 256) : s1N (k + 1) (2 ^ 8 * r + b) = 2 ^ 8 * s1N k r + p1N b := by
  unfold s1N p1N
  have e : (2 ^ 8 * r + b) / 2 = 2 ^ 8 * (r / 2) + (b / 2 + 128 * (r % 2)) := by omega
  have h1 := p1_tab b hb (r % 2) (Nat.mod_lt _ (by decide))
  have h2 := p1_le b hb
  have h3 : (r / 2 &&& mk5 k) ≤ r / 2 := Nat.and_le_left
  rw [e, show mk5 (k + 1) = 2 ^ 8 * mk5 k + 85 from rfl, and_split (by omega) (by decide), h1]
  omega
theorem s2_step (k : Nat) {r b : Nat} (hb : b < 256) : s2N (k + 1) (2 ^ 8 * r + b) = 2 ^ 8 * s2N k r + p2N b := by
  have hp : p1N b < 256 := by unfold p1N; omega
  have h1 := p2_tab (p1N b) hp (s1N k r % 4) (Nat.mod_lt _ (by decide))
  unfold s2N p2N
  rw [s1_step k hb]
  have e : (2 ^ 8 * s1N k r + p1N b) / 4 = 2 ^ 8 * (s1N k r / 4) + (p1N b / 4 + 64 * (s1N k r % 4)) := by omega
  rw [e, show mk3 (k + 1) = 2 ^ 8 * mk3 k + 51 from rfl, and_split (by omega) (by decide), and_split (by omega) (by decide), h1]
  omega
theorem s2_low (k r : Nat) : s2N k r % 16 ≤ 4 := by
  cases k with
  | zero =>
    unfold s2N
    rw [show mk3 0 = 0 from rfl, Nat.and_zero, Nat.and_zero]
    decide
  | succ k =>
    have hb : r % 256 < 256 := Nat.mod_lt _ (by decide)
    have h1 := s2_step k (r := r / 256) hb
    have h2 := p2_le _ hb
    rw [show 2 ^ 8 * (r / 256) + r % 256 = r by omega] at h1
    rw [h1]
    omega
theorem s3_step (k : Nat) {r b : Nat} (hb : b < 256) : s3N (k + 1) (2 ^ 8 * r + b) = 2 ^ 8 * s3N k r + p3N b := by
  have h2 := p2_le b hb
  have h3 := s2_low k r
  have h1 := p3_tab b hb (s2N k r % 16) (by omega)
  unfold s3N
  rw [s2_step k hb]
  have e : 2 ^ 8 * s2N k r + p2N b + (2 ^ 8 * s2N k r + p2N b) / 16 = 2 ^ 8 * (s2N k r + s2N k r / 16) + (p2N b + p2N b / 16 + 16 * (s2N k r % 16)) := by omega
  rw [e, show mkF (k + 1) = 2 ^ 8 * mkF k + 15 from rfl, and_split (by omega) (by decide), h1]
theorem pc_step (n : Nat) {r b : Nat} (hb : b < 256) : sumN (8 + n) (fun i => b01 ((2 ^ 8 * r + b).testBit i)) = (p3N b : Int) + sumN n (fun i => b01 (r.testBit i)) := by
  rw [sumN_split, ← (p3_bits b hb).1]
  congr 1
  · refine sumN_congr (fun i hi => ?_)
    rw [Nat.testBit_two_pow_mul_add _ (show b < 2 ^ 8 from hb), if_pos hi]
  · refine sumN_congr (fun i hi => ?_)
    rw [Nat.testBit_two_pow_mul_add _ (show b < 2 ^ 8 from hb), if_neg (by omega), show 8 + i - 8 = i by omega]
/-- how many of the first 40 bits -/
def pcN (m : Nat) : Int := sumN 40 (fun i => b01 (m.testBit i))
theorem pc_all {m : Nat} (h : m < 2 ^ 40) : ((s3N 8 m + s3N 8 m / 256 + (s3N 8 m + s3N 8 m / 256) / 65536 + (s3N 8 m + s3N 8 m / 256 + (s3N 8 m + s3N 8 m / 256) / 65536) / 4294967296 : Nat) : Int) % 128 = pcN m := by
  obtain ⟨b0, b1, b2, b3, b4, h0, h1, h2, h3, h4, rfl⟩ : ∃ b0 b1 b2 b3 b4, b0 < 256 ∧ b1 < 256 ∧ b2 < 256 ∧ b3 < 256 ∧ b4 < 256 ∧ m = 2 ^ 8 * (2 ^ 8 * (2 ^ 8 * (2 ^ 8 * (2 ^ 8 * 0 + b4) + b3) + b2) + b1) + b0 :=
    ⟨m % 256, m / 256 % 256, m / 65536 % 256, m / 16777216 % 256, m / 4294967296, Nat.mod_lt _ (by decide), Nat.mod_lt _ (by decide), Nat.mod_lt _ (by decide), Nat.mod_lt _ (by decide), by omega, by omega⟩
  have e : pcN (2 ^ 8 * (2 ^ 8 * (2 ^ 8 * (2 ^ 8 * (2 ^ 8 * 0 + b4) + b3) + b2) + b1) + b0) = (p3N b0 : Int) + ((p3N b1 : Int) + ((p3N b2 : Int) + ((p3N b3 : Int) + ((p3N b4 : Int) + 0)))) := by
    unfold pcN
    rw [show 40 = 8 + (8 + (8 + (8 + (8 + 0)))) from rfl, pc_step _ h0, pc_step _ h1, pc_step _ h2, pc_step _ h3, pc_step _ h4]
    rfl
  rw [e, s3_step 7 h0, s3_step 6 h1, s3_step 5 h2, s3_step 4 h3, s3_step 3 h4, show s3N 3 0 = 0 by decide]
  have q0 := (p3_bits b0 h0).2
  have q1 := (p3_bits b1 h1).2
  have q2 := (p3_bits b2 h2).2
  have q3 := (p3_bits b3 h3).2
  have q4 := (p3_bits b4 h4).2
  generalize p3N b0 = a0 at *
  generalize p3N b1 = a1 at *
  generalize p3N b2 = a2 at *
  generalize p3N b3 = a3 at *
  generalize p3N b4 = a4 at *
  have f0 : 2 ^ 8 * (2 ^ 8 * (2 ^ 8 * (2 ^ 8 * (2 ^ 8 * 0 + a4) + a3) + a2) + a1) + a0 = 4294967296 * a4 + 16777216 * a3 + 65536 * a2 + 256 * a1 + a0 := by omega
  rw [f0]
  have f1 : (4294967296 * a4 + 16777216 * a3 + 65536 * a2 + 256 * a1 + a0) / 256 = 16777216 * a4 + 65536 * a3 + 256 * a2 + a1 := by omega
  rw [f1]
  have f2 : (4294967296 * a4 + 16777216 * a3 + 65536 * a2 + 256 * a1 + a0 + (16777216 * a4 + 65536 * a3 + 256 * a2 + a1)) / 65536 = 65536 * a4 + 256 * (a3 + a4) + (a2 + a3) := by omega
  rw [f2]
  have f3 : (4294967296 * a4 + 16777216 * a3 + 65536 * a2 + 256 * a1 + a0 + (16777216 * a4 + 65536 * a3 + 256 * a2 + a1) + (65536 * a4 + 256 * (a3 + a4) + (a2 + a3))) / 4294967296 = a4 := by omega
  rw [f3]
  omega
