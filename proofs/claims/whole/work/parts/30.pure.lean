/-! PURE PART: words. Ints of 32 bits as images of integers. -/
abbrev J (a : Int) : Int32 := Int32.ofInt a
/-- what of the heap never changes but by making: kinds, lengths, references -/
abbrev Tp : Type := (Nat → Nat) × (Nat → Nat) × (Nat → Nat → Nat)
def top (h : Hp) : Tp := (hTag h, hLen h, hR h)
theorem J_toInt {a : Int} (h1 : -2147483648 ≤ a) (h2 : a < 2147483648) : (J a).toInt = a := by
  show (Int32.ofInt a).toInt = a
  rw [Int32.toInt_ofInt]
  exact Int.bmod_eq_of_le (by show -(2147483648 : Int) ≤ a; exact h1) (by show a < (2147483648 : Int); exact h2)
theorem J_inv (x : Int32) : J x.toInt = x := Int32.ofInt_toInt x
theorem J_add (a b : Int) : J a + J b = J (a + b) := (Int32.ofInt_add a b).symm
theorem J_mul (a b : Int) : J a * J b = J (a * b) := (Int32.ofInt_mul a b).symm
theorem J_sub (a b : Int) : J a - J b = J (a - b) := (Int32.ofInt_sub a b).symm
theorem J_neg (a : Int) : -(J a) = J (-a) := (Int32.ofInt_neg a).symm
theorem J_le {a b : Int} (h1 : -2147483648 ≤ a) (h2 : a < 2147483648) (h3 : -2147483648 ≤ b) (h4 : b < 2147483648) : (J a ≤ J b) = (a ≤ b) := by
  rw [Int32.le_iff_toInt_le, J_toInt h1 h2, J_toInt h3 h4]
theorem J_lt {a b : Int} (h1 : -2147483648 ≤ a) (h2 : a < 2147483648) (h3 : -2147483648 ≤ b) (h4 : b < 2147483648) : (J a < J b) = (a < b) := by
  rw [Int32.lt_iff_toInt_lt, J_toInt h1 h2, J_toInt h3 h4]
theorem J_eq {a b : Int} (h1 : -2147483648 ≤ a) (h2 : a < 2147483648) (h3 : -2147483648 ≤ b) (h4 : b < 2147483648) : (J a = J b) = (a = b) := by
  rw [← Int32.toInt_inj, J_toInt h1 h2, J_toInt h3 h4]
theorem J_inj {a b : Int} (h1 : -2147483648 ≤ a) (h2 : a < 2147483648) (h3 : -2147483648 ≤ b) (h4 : b < 2147483648) (h : J a = J b) : a = b := by
  rw [J_eq h1 h2 h3 h4] at h
  exact h
theorem J_nat {a : Int} (h1 : -2147483648 ≤ a) (h2 : a < 2147483648) : (J a).toNatClampNeg = a.toNat := by
  show (J a).toInt.toNat = a.toNat
  rw [J_toInt h1 h2]
theorem J_rg (x : Int32) : -2147483648 ≤ x.toInt ∧ x.toInt < 2147483648 := ⟨Int32.le_toInt x, Int32.toInt_lt x⟩
theorem iT {α : Type} {a b : Int} {x y : α} (h : a ≤ b) : (if a ≤ b then x else y) = x := if_pos h
theorem iF {α : Type} {a b : Int} {x y : α} (h : b < a) : (if a ≤ b then x else y) = y := if_neg (by omega)
theorem jT {α : Type} {a b : Int} {x y : α} (h : a < b) : (if a < b then x else y) = x := if_pos h
theorem jF {α : Type} {a b : Int} {x y : α} (h : b ≤ a) : (if a < b then x else y) = y := if_neg (by omega)
theorem eT {α : Type} {a b : Int} {x y : α} (h : a = b) : (if a = b then x else y) = x := if_pos h
theorem eF {α : Type} {a b : Int} {x y : α} (h : a < b ∨ b < a) : (if a = b then x else y) = y := if_neg (by omega)
theorem aT {α : Type} {a b c d : Int} {x y : α} (h : a ≤ b ∧ c < d) : (if a ≤ b ∧ c < d then x else y) = x := if_pos h
theorem aF {α : Type} {a b c d : Int} {x y : α} (h : b < a ∨ d ≤ c) : (if a ≤ b ∧ c < d then x else y) = y := if_neg (by omega)
theorem bS {α β : Type} {x : α} {f : α → Option β} : (some x).bind f = f x := rfl
theorem l0 : (0 : Int32) = J 0 := rfl
theorem l1 : (1 : Int32) = J 1 := rfl
theorem lm1 : (-1 : Int32) = J (-1) := rfl
theorem l10 : (10 : Int32) = J 10 := rfl
theorem l20 : (20 : Int32) = J 20 := rfl
/-- loops: N turns, and then the end -/
theorem loop_run {σ R : Type} {body : (σ → Option R) → σ → Option R} {r : R} (S : Nat → σ) (N : Nat) (hN : N < FUEL) (hs : ∀ k i, i < N → body k (S i) = k (S (i + 1))) (he : ∀ k, body k (S N) = some r) : loopK FUEL body (S 0) = some r := by
  have key : ∀ j i fuel : Nat, i + j = N → j < fuel → loopK fuel body (S i) = some r := by
    intro j
    induction j with
    | zero =>
      intro i fuel hi hf
      obtain ⟨f, rfl⟩ : ∃ f, fuel = f + 1 := ⟨fuel - 1, by omega⟩
      have : i = N := by omega
      subst this
      exact he _
    | succ j ih =>
      intro i fuel hi hf
      obtain ⟨f, rfl⟩ : ∃ f, fuel = f + 1 := ⟨fuel - 1, by omega⟩
      show body (loopK f body) (S i) = some r
      rw [hs _ i (by omega)]
      exact ih (i + 1) f (by omega) (by omega)
  exact key N 0 FUEL (by omega) hN
/-- sums -/
def sumN : Nat → (Nat → Int) → Int
  | 0, _ => 0
  | n + 1, f => sumN n f + f n
/-- a row of ints of n cells -/
def TI (t : Tp) (a n : Nat) : Prop := t.1 a = 20 ∧ t.2.1 a = n
def TJ (t : Tp) (a n : Nat) : Prop := t.1 a = 22 ∧ t.2.1 a = n
theorem alen_ok {h : Hp} {a n : Nat} (hT : TI (top h) a n) (hn : n < 100000) : alen h a 20 = some (J n) := by
  unfold alen
  rw [if_pos (show hTag h a = 20 from hT.1), show hLen h a = n from hT.2]
  rfl
theorem inB_ok {i : Int} {n : Nat} (h0 : 0 ≤ i) (h1 : i < n) (h2 : n < 100000) : inB (J i) n = true := by
  sorry
theorem alI_ok {h : Hp} {a n : Nat} {i : Int} (hT : TI (top h) a n) (h0 : 0 ≤ i) (h1 : i < n) (hn : n < 100000) : alI h a (J i) = some (hI h a i.toNat) := by
  unfold alI
  rw [if_pos ⟨hT.1, by rw [show hLen h a = n from hT.2]; exact inB_ok h0 h1 hn⟩, J_nat (by omega) (by omega)]
theorem asI_ok {h : Hp} {a n : Nat} {i : Int} {x : Int32} (hT : TI (top h) a n) (h0 : 0 ≤ i) (h1 : i < n) (hn : n < 100000) : asI h a (J i) x = some (setI h a i.toNat x) := by
  unfold asI
  rw [if_pos ⟨hT.1, by rw [show hLen h a = n from hT.2]; exact inB_ok h0 h1 hn⟩, J_nat (by omega) (by omega)]
/-- a row's cell, 0 beyond its ends -/
theorem X5_at_ok {h : Hp} {a n : Nat} {i : Int} (hT : TI (top h) a n) (hn : n < 100000) (h1 : -2147483648 ≤ i) (h2 : i < 2147483648) : m_X5_at a (J i) h = some (if 0 ≤ i ∧ i < n then hI h a i.toNat else J 0) := by
  unfold m_X5_at j_X5_at_17
  by_cases hi : i < 0
  · simp (disch := omega) only [l0, J_lt, J_le, jT, jF, aF]
  · by_cases hi2 : i < n
    · simp (disch := omega) only [l0, J_lt, J_le, jT, jF, iT, iF, alen_ok hT hn, alI_ok hT _ _ hn, bS, aT]
    · simp (disch := omega) only [l0, J_lt, J_le, jT, jF, iT, iF, alen_ok hT hn, bS, aF]
