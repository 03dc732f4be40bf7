/-! PURE PART: words. Ints of 32 bits as images of integers. -/
abbrev J (a : Int) : Int32 := Int32.ofInt a
/-- what of the heap never changes but by making: kinds, lengths, references -/
abbrev Tp : Type := (Nat → Nat) × (Nat → Nat) × (Nat → Nat → Nat)
def top (h : Hp) : Tp := (hTag h, hLen h, hR h)
theorem J_toInt {a : Int} (h1 : -2147483648 ≤ a) (h2 : a < 2147483648) : (J a).toInt = a := by
  show (Int32.ofInt a).toInt = a
  rw [Int32.toInt_ofInt]
  exact Int.bmod_eq_of_le (by show -(2147483648 : Int) ≤ a; exact h1) (by show a < (2147483648 : Int); exact h2)
theorem J_inv (x : Int32) : J x.toInt = x := Int32.ofInt_toInt x
theorem J_add (a b : Int) : J a + J b = J (a + b) := (Int32.ofInt_add a b).symm
theorem J_mul (a b : Int) : J a * J b = J (a * b) := (Int32.ofInt_mul a b).symm
theorem J_sub (a b : Int) : J a - J b = J (a - b) := (Int32.ofInt_sub a b).symm
theorem J_neg (a : Int) : -(J a) = J (-a) := (Int32.ofInt_neg a).symm
theorem J_le {a b : Int} (h1 : -2147483648 ≤ a) (h2 : a < 2147483648) (h3 : -2147483648 ≤ b) (h4 : b < 2147483648) : (J a ≤ J b) = (a ≤ b) := by
  rw [Int32.le_iff_toInt_le, J_toInt h1 h2, J_toInt h3 h4]
theorem J_lt {a b : Int} (h1 : -2147483648 ≤ a) (h2 : a < 2147483648) (h3 : -2147483648 ≤ b) (h4 : b < 2147483648) : (J a < J b) = (a < b) := by
  rw [Int32.lt_iff_toInt_lt, J_toInt h1 h2, J_toInt h3 h4]
theorem J_eq {a b : Int} (h1 : -2147483648 ≤ a) (h2 : a < 2147483648) (h3 : -2147483648 ≤ b) (h4 : b < 2147483648) : (J a = J b) = (a = b) := by
  rw [← Int32.toInt_inj, J_toInt h1 h2, J_toInt h3 h4]
theorem J_inj {a b : Int} (h1 : -2147483648 ≤ a) (h2 : a < 2147483648) (h3 : -2147483648 ≤ b) (h4 : b < 2147483648) (h : J a = J b) : a = b := by
  rw [J_eq h1 h2 h3 h4] at h
  exact h
theorem J_nat {a : Int} (h1 : -2147483648 ≤ a) (h2 : a < 2147483648) : (J a).toNatClampNeg = a.toNat := by
  show (J a).toInt.toNat = a.toNat
  rw [J_toInt h1 h2]
theorem J_rg (x : Int32) : -2147483648 ≤ x.toInt ∧ x.toInt < 2147483648 := ⟨Int32.le_toInt x, Int32.toInt_lt x⟩
theorem iT {α : Type} {a b : Int} {x y : α} (h : a ≤ b) : (if a ≤ b then x else y) = x := if_pos h
theorem iF {α : Type} {a b : Int} {x y : α} (h : b < a) : (if a ≤ b then x else y) = y := if_neg (by omega)
theorem jT {α : Type} {a b : Int} {x y : α} (h : a < b) : (if a < b then x else y) = x := if_pos h
theorem jF {α : Type} {a b : Int} {x y : α} (h : b ≤ a) : (if a < b then x else y) = y := if_neg (by omega)
theorem eT {α : Type} {a b : Int} {x y : α} (h : a = b) : (if a = b then x else y) = x := if_pos h
theorem eF {α : Type} {a b : Int} {x y : α} (h : a < b ∨ b < a) : (if a = b then x else y) = y := if_neg (by omega)
theorem aT {α : Type} {a b c d : Int} {x y : α} (h : a ≤ b ∧ c < d) : (if a ≤ b ∧ c < d then x else y) = x := if_pos h
theorem aF {α : Type} {a b c d : Int} {x y : α} (h : b < a ∨ d ≤ c) : (if a ≤ b ∧ c < d then x else y) = y := if_neg (by omega)
theorem bS {α β : Type} {x : α} {f : α → Option β} : (some x).bind f = f x := rfl
theorem lm8 : (-8 : Int32) = J (-8) := rfl
theorem lm2 : (-2 : Int32) = J (-2) := rfl
theorem lm1 : (-1 : Int32) = J (-1) := rfl
theorem l0 : (0 : Int32) = J 0 := rfl
theorem l1 : (1 : Int32) = J 1 := rfl
theorem l2 : (2 : Int32) = J 2 := rfl
theorem l3 : (3 : Int32) = J 3 := rfl
theorem l4 : (4 : Int32) = J 4 := rfl
theorem l5 : (5 : Int32) = J 5 := rfl
theorem l6 : (6 : Int32) = J 6 := rfl
theorem l7 : (7 : Int32) = J 7 := rfl
theorem l8 : (8 : Int32) = J 8 := rfl
theorem l9 : (9 : Int32) = J 9 := rfl
theorem l10 : (10 : Int32) = J 10 := rfl
theorem l11 : (11 : Int32) = J 11 := rfl
theorem l12 : (12 : Int32) = J 12 := rfl
theorem l13 : (13 : Int32) = J 13 := rfl
theorem l14 : (14 : Int32) = J 14 := rfl
theorem l15 : (15 : Int32) = J 15 := rfl
theorem l16 : (16 : Int32) = J 16 := rfl
theorem l17 : (17 : Int32) = J 17 := rfl
theorem l18 : (18 : Int32) = J 18 := rfl
theorem l19 : (19 : Int32) = J 19 := rfl
theorem l20 : (20 : Int32) = J 20 := rfl
theorem l21 : (21 : Int32) = J 21 := rfl
theorem l22 : (22 : Int32) = J 22 := rfl
theorem l23 : (23 : Int32) = J 23 := rfl
theorem l24 : (24 : Int32) = J 24 := rfl
theorem l25 : (25 : Int32) = J 25 := rfl
theorem l27 : (27 : Int32) = J 27 := rfl
theorem l31 : (31 : Int32) = J 31 := rfl
theorem l32 : (32 : Int32) = J 32 := rfl
theorem l40 : (40 : Int32) = J 40 := rfl
theorem l46 : (46 : Int32) = J 46 := rfl
theorem l48 : (48 : Int32) = J 48 := rfl
theorem l50 : (50 : Int32) = J 50 := rfl
theorem l57 : (57 : Int32) = J 57 := rfl
theorem l59 : (59 : Int32) = J 59 := rfl
theorem l63 : (63 : Int32) = J 63 := rfl
theorem l86 : (86 : Int32) = J 86 := rfl
theorem l96 : (96 : Int32) = J 96 := rfl
theorem l97 : (97 : Int32) = J 97 := rfl
theorem l100 : (100 : Int32) = J 100 := rfl
theorem l110 : (110 : Int32) = J 110 := rfl
theorem l114 : (114 : Int32) = J 114 := rfl
theorem l122 : (122 : Int32) = J 122 := rfl
theorem l127 : (127 : Int32) = J 127 := rfl
theorem l200 : (200 : Int32) = J 200 := rfl
theorem l255 : (255 : Int32) = J 255 := rfl
theorem l300 : (300 : Int32) = J 300 := rfl
theorem l319 : (319 : Int32) = J 319 := rfl
theorem l320 : (320 : Int32) = J 320 := rfl
theorem l340 : (340 : Int32) = J 340 := rfl
theorem l441 : (441 : Int32) = J 441 := rfl
theorem l456 : (456 : Int32) = J 456 := rfl
theorem l580 : (580 : Int32) = J 580 := rfl
theorem l600 : (600 : Int32) = J 600 := rfl
theorem l800 : (800 : Int32) = J 800 := rfl
theorem l886 : (886 : Int32) = J 886 := rfl
theorem l1206 : (1206 : Int32) = J 1206 := rfl
theorem l1526 : (1526 : Int32) = J 1526 := rfl
theorem l2400 : (2400 : Int32) = J 2400 := rfl
theorem l3052 : (3052 : Int32) = J 3052 := rfl
theorem l12208 : (12208 : Int32) = J 12208 := rfl
theorem l12345 : (12345 : Int32) = J 12345 := rfl
theorem l19683 : (19683 : Int32) = J 19683 := rfl
theorem l1000000 : (1000000 : Int32) = J 1000000 := rfl
theorem l252645135 : (252645135 : Int32) = J 252645135 := rfl
theorem l858993459 : (858993459 : Int32) = J 858993459 := rfl
theorem l1103515245 : (1103515245 : Int32) = J 1103515245 := rfl
theorem l1431655765 : (1431655765 : Int32) = J 1431655765 := rfl
/-- loops: N turns, and then the end -/
theorem loop_run {σ R : Type} {body : (σ → Option R) → σ → Option R} {r : Option R} (S : Nat → σ) (N : Nat) (hN : N < FUEL) (hs : ∀ k i, i < N → body k (S i) = k (S (i + 1))) (he : ∀ k, body k (S N) = r) : loopK FUEL body (S 0) = r := by
  have key : ∀ j i fuel : Nat, i + j = N → j < fuel → loopK fuel body (S i) = r := by
    intro j
    induction j with
    | zero =>
      intro i fuel hi hf
      obtain ⟨f, rfl⟩ : ∃ f, fuel = f + 1 := ⟨fuel - 1, by omega⟩
      have : i = N := by omega
      subst this
      exact he _
    | succ j ih =>
      intro i fuel hi hf
      obtain ⟨f, rfl⟩ : ∃ f, fuel = f + 1 := ⟨fuel - 1, by omega⟩
      show body (loopK f body) (S i) = r
      rw [hs _ i (by omega)]
      exact ih (i + 1) f (by omega) (by omega)
  exact key N 0 FUEL (by omega) hN
theorem loop_to {σ R : Type} {body : (σ → Option R) → σ → Option R} {r : Option R} {s : σ} (S : Nat → σ) (N : Nat) (h0 : S 0 = s) (hN : N < FUEL) (hs : ∀ k i, i < N → body k (S i) = k (S (i + 1))) (he : ∀ k, body k (S N) = r) : loopK FUEL body s = r := by
  subst h0
  exact loop_run S N hN hs he
theorem lt_FUEL {n : Nat} (h : n < 4294967296) : n < FUEL := h
/-- sums over the first n -/
def sumN : Nat → (Nat → Int) → Int
  | 0, _ => 0
  | n + 1, f => sumN n f + f n
def sumZ (n : Int) (f : Int → Int) : Int := sumN n.toNat (fun i => f i)
theorem sumZ_0 {f : Int → Int} : sumZ 0 f = 0 := rfl
theorem sumZ_succ {n : Int} {f : Int → Int} (h : 0 ≤ n) : sumZ (n + 1) f = sumZ n f + f n := by
  unfold sumZ
  rw [show (n + 1).toNat = n.toNat + 1 by omega]
  show sumN n.toNat _ + f (n.toNat : Int) = _
  rw [Int.toNat_of_nonneg h]
/-- some of the first n -/
def anyN : Nat → (Nat → Bool) → Bool
  | 0, _ => false
  | n + 1, f => anyN n f || f n
def anyZ (n : Int) (f : Int → Bool) : Bool := anyN n.toNat (fun i => f i)
theorem anyN_iff {n : Nat} {f : Nat → Bool} : anyN n f = true ↔ ∃ i, i < n ∧ f i = true := by
  induction n with
  | zero => simp [anyN]
  | succ n ih =>
    simp only [anyN, Bool.or_eq_true, ih]
    constructor
    · rintro (⟨i, h1, h2⟩ | h2)
      · exact ⟨i, by omega, h2⟩
      · exact ⟨n, by omega, h2⟩
    · rintro ⟨i, h1, h2⟩
      by_cases hi : i = n
      · subst hi
        exact Or.inr h2
      · exact Or.inl ⟨i, by omega, h2⟩
theorem anyZ_iff {n : Int} {f : Int → Bool} : anyZ n f = true ↔ ∃ i, 0 ≤ i ∧ i < n ∧ f i = true := by
  unfold anyZ
  rw [anyN_iff]
  constructor
  · rintro ⟨i, h1, h2⟩
    exact ⟨i, by omega, by omega, h2⟩
  · rintro ⟨i, h0, h1, h2⟩
    exact ⟨i.toNat, by omega, by rw [Int.toNat_of_nonneg h0]; exact h2⟩
theorem sumN_congr {n : Nat} {f g : Nat → Int} (H : ∀ i, i < n → f i = g i) : sumN n f = sumN n g := by
  induction n with
  | zero => rfl
  | succ n ih => show sumN n f + f n = sumN n g + g n; rw [ih (fun i hi => H i (by omega)), H n (by omega)]
theorem sumZ_congr {n : Int} {f g : Int → Int} (H : ∀ i, 0 ≤ i → i < n → f i = g i) : sumZ n f = sumZ n g := sumN_congr (fun i hi => H i (by omega) (by omega))
/-- a row of ints of n cells -/
def TI (t : Tp) (a n : Nat) : Prop := t.1 a = 20 ∧ t.2.1 a = n
def TJ (t : Tp) (a n : Nat) : Prop := t.1 a = 22 ∧ t.2.1 a = n
theorem alen_ok {h : Hp} {a n : Nat} (hT : TI (top h) a n) (hn : n < 100000) : alen h a 20 = some (J n) := by
  unfold alen
  rw [if_pos (show hTag h a = 20 from hT.1), show hLen h a = n from hT.2]
  rfl
theorem inB_ok {i : Int} {n : Nat} (h0 : 0 ≤ i) (h1 : i < n) (h2 : n < 100000) : inB (J i) n = true := by
  unfold inB
  rw [J_toInt (by omega) (by omega)]
  simp only [Bool.and_eq_true, decide_eq_true_eq]
  exact ⟨h0, h1⟩
/-- a cell's int, as an integer -/
def hE (h : Hp) (a : Nat) (i : Int) : Int := (hI h a i.toNat).toInt
theorem hE_J (h : Hp) (a : Nat) (i : Int) : hI h a i.toNat = J (hE h a i) := (J_inv _).symm
theorem hE_rg (h : Hp) (a : Nat) (i : Int) : -2147483648 ≤ hE h a i ∧ hE h a i < 2147483648 := J_rg _
/-- a row's cell, 0 beyond its ends -/
def atE (h : Hp) (a n : Nat) (i : Int) : Int := if 0 ≤ i ∧ i < n then hE h a i else 0
theorem atE_rg (h : Hp) (a n : Nat) (i : Int) : -2147483648 ≤ atE h a n i ∧ atE h a n i < 2147483648 := by
  unfold atE
  split
  · exact hE_rg h a i
  · omega
theorem atE_in {h : Hp} {a n : Nat} {i : Int} (h0 : 0 ≤ i) (h1 : i < n) : atE h a n i = hE h a i := if_pos ⟨h0, h1⟩
theorem alI_ok {h : Hp} {a n : Nat} {i : Int} (hT : TI (top h) a n) (h0 : 0 ≤ i) (h1 : i < n) (hn : n < 100000) : alI h a (J i) = some (J (hE h a i)) := by
  unfold alI
  rw [if_pos ⟨hT.1, by rw [show hLen h a = n from hT.2]; exact inB_ok h0 h1 hn⟩, J_nat (by omega) (by omega), hE_J]
/-- a cell written -/
abbrev wE (h : Hp) (a : Nat) (i z : Int) : Hp := setI h a i.toNat (J z)
theorem asI_ok {h : Hp} {a n : Nat} {i z : Int} (hT : TI (top h) a n) (h0 : 0 ≤ i) (h1 : i < n) (hn : n < 100000) : asI h a (J i) (J z) = some (wE h a i z) := by
  unfold asI
  rw [if_pos ⟨hT.1, by rw [show hLen h a = n from hT.2]; exact inB_ok h0 h1 hn⟩, J_nat (by omega) (by omega)]
theorem hE_wE {h : Hp} {a b : Nat} {i j z : Int} (hi : 0 ≤ i) (hj : 0 ≤ j) (h1 : -2147483648 ≤ z) (h2 : z < 2147483648) : hE (wE h a i z) b j = if b = a ∧ j = i then z else hE h b j := by
  unfold hE
  rw [hI_setI]
  unfold up2
  by_cases hb : b = a
  · subst hb
    rw [if_pos rfl]
    by_cases hji : j = i
    · subst hji
      rw [if_pos rfl, if_pos ⟨rfl, rfl⟩, J_toInt h1 h2]
    · rw [if_neg (by omega), if_neg (by omega)]
  · rw [if_neg hb, if_neg (fun q => hb q.1)]
theorem hE_wE_ne {h : Hp} {a b : Nat} {i j z : Int} (hb : b ≠ a) : hE (wE h a i z) b j = hE h b j := by
  unfold hE
  rw [hI_setI, up2_ne hb]
theorem gfI_ok {h : Hp} {o t k : Nat} (ht : hTag h o = t) : gfI h o t k = some (J (hE h o k)) := by
  unfold gfI
  rw [if_pos ht, ← hE_J]
  rfl
theorem pfI_ok {h : Hp} {o t k : Nat} {z : Int} (ht : hTag h o = t) : pfI h o t k (J z) = some (wE h o k z) := by
  unfold pfI
  rw [if_pos ht]
  rfl
theorem gfR_ok {h : Hp} {o t k a : Nat} (ht : hTag h o = t) (hr : hR h o k = a) : gfR h o t k = some a := by
  unfold gfR
  rw [if_pos ht, hr]
theorem rc_ok {α : Type} {h : Hp} {o t : Nat} {m : Option α} (ht : hTag h o = t) : rc h o t m = m := if_pos ht
theorem X5_at_ok {h : Hp} {a n : Nat} {i : Int} (hT : TI (top h) a n) (hn : n < 100000) (h1 : -2147483648 ≤ i) (h2 : i < 2147483648) : m_X5_at a (J i) h = some (J (atE h a n i)) := by
  unfold m_X5_at j_X5_at_17 atE
  by_cases hi : i < 0
  · simp (disch := omega) only [l0, J_lt, J_le, jT, jF, aF]
  · by_cases hi2 : i < n
    · simp (disch := omega) only [l0, J_lt, J_le, jT, jF, iT, iF, alen_ok hT hn, alI_ok hT _ _ hn, bS, aT]
    · simp (disch := omega) only [l0, J_lt, J_le, jT, jF, iT, iF, alen_ok hT hn, bS, aF]
theorem X5_set_ok {h : Hp} {a n : Nat} {i z : Int} (hT : TI (top h) a n) (h0 : 0 ≤ i) (h1 : i < n) (hn : n < 100000) : m_X5_set a (J i) (J z) h = some (wE h a i z) := by
  unfold m_X5_set
  simp (disch := omega) only [l0, J_lt, J_le, jT, jF, iT, iF, alen_ok hT hn, asI_ok hT _ _ hn, bS]
theorem X5_set_out {h : Hp} {a n : Nat} {i z : Int} (hT : TI (top h) a n) (h0 : i < 0 ∨ n ≤ i) (h1 : -2147483648 ≤ i) (h2 : i < 2147483648) (hn : n < 100000) : m_X5_set a (J i) (J z) h = some h := by
  unfold m_X5_set
  by_cases hi : i < 0
  · simp (disch := omega) only [l0, J_lt, J_le, jT]
  · simp (disch := omega) only [l0, J_lt, J_le, jT, jF, iT, iF, alen_ok hT hn, bS]
theorem zb0 : zb (J 0) = some (J 0) := by decide
theorem zb1 : zb (J 1) = some (J 1) := by decide
