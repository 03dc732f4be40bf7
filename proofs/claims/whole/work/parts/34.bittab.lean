/-! PURE PART: sets of versions as bits -/
/-- 1 or 0 -/
def b01 (b : Bool) : Int := if b = true then 1 else 0
def bt (m : Nat) (v : Int) : Bool := decide (0 ≤ v) && m.testBit v.toNat
theorem has_tab : ∀ m, m < 1024 → ∀ v, v < 12 → (ishrF (Int32.ofInt (m : Nat)) (Int32.ofInt (v : Nat))) &&& 1 = if m.testBit v = true then 1 else 0 := by decide +kernel
theorem bit_tab : ∀ m, m < 1024 → ∀ v, v < 32 → (iushrF (Int32.ofInt (m : Nat)) (Int32.ofInt (v : Nat))) &&& 1 = if m.testBit v = true then 1 else 0 := by decide +kernel
theorem or_tab : ∀ v, v < 10 → ∀ m, m < 1024 → Int32.ofInt (m : Nat) ||| ishlF 1 (Int32.ofInt (v : Nat)) = Int32.ofInt ((m ||| 2 ^ v : Nat)) := by decide +kernel
/-- how many there are -/
def onN (m : Nat) : Int := sumZ 10 (fun v => b01 (bt m v))
def roN (m : Nat) : Int := sumZ 10 (fun v => b01 (bt m v && !bt m (v - 1)))
/-- the first, the last -/
def fiN : Nat → (Nat → Bool) → Int
  | 0, _ => -1
  | n + 1, f => if 0 ≤ fiN n f then fiN n f else if f n = true then n else -1
def laN : Nat → (Nat → Bool) → Int
  | 0, _ => -1
  | n + 1, f => if f n = true then n else laN n f
def hpZ : Hp := (2, 0, fun _ => 0, fun _ => 0, fun _ _ => 0, fun _ _ => 0, fun _ _ => 0)
theorem cnt_tab : ∀ m, m < 1024 → m_J6_bitCount_0f7a4 (Int32.ofInt (m : Nat)) hpZ = some (Int32.ofInt (onN m)) := by decide +kernel
theorem run_tab : ∀ m, m < 1024 → m_X5_runs (Int32.ofInt (m : Nat)) hpZ = some (Int32.ofInt (roN m)) := by decide +kernel
theorem fst_tab : ∀ m, m < 1024 → m_X5_firstBit (Int32.ofInt (m : Nat)) hpZ = some (Int32.ofInt (fiN 10 (fun v => m.testBit v))) := by decide +kernel
theorem J6_bitCount_ok {h : Hp} {m : Nat} (hm : m < 1024) : m_J6_bitCount_0f7a4 (J m) h = some (J (onN m)) := cnt_tab m hm
theorem X5_runs_ok {h : Hp} {m : Nat} (hm : m < 1024) : m_X5_runs (J m) h = some (J (roN m)) := run_tab m hm
theorem X5_firstBit_ok {h : Hp} {m : Nat} (hm : m < 1024) : m_X5_firstBit (J m) h = some (J (fiN 10 (fun v => m.testBit v))) := fst_tab m hm
