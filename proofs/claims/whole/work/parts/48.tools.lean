/-! PURE PART: loops over integers, sums, finds -/
theorem loop_int {σ R : Type} {body : (σ → Option R) → σ → Option R} {r : Option R} {s : σ} (S : Int → σ) (n : Int) (h0 : 0 ≤ n) (hn : n < 4294967296) (h : S 0 = s) (hs : ∀ k i, 0 ≤ i → i < n → body k (S i) = k (S (i + 1))) (he : ∀ k, body k (S n) = r) : loopK FUEL body s = r := by
  refine loop_to (fun i : Nat => S (i : Int)) n.toNat h (lt_FUEL (by omega)) (fun k i hi => ?_) (fun k => ?_)
  · exact hs k i (by omega) (by omega)
  · show body k (S (n.toNat : Int)) = r
    rw [Int.toNat_of_nonneg h0]
    exact he k
/-- the first of the first n, -1: none -/
def fiZ (n : Int) (p : Int → Bool) : Int := fiN n.toNat (fun i => p i)
theorem fiZ_spec (n : Int) (p : Int → Bool) : (fiZ n p = -1 ∧ ∀ i, 0 ≤ i → i < n → p i = false) ∨ (0 ≤ fiZ n p ∧ fiZ n p < n ∧ p (fiZ n p) = true ∧ ∀ j, 0 ≤ j → j < fiZ n p → p j = false) := by
  unfold fiZ
  rcases fiN_spec n.toNat (fun i => p i) with ⟨h1, h2⟩ | ⟨i, h1, h2, h3, h4⟩
  · refine Or.inl ⟨h1, fun i h3 h4 => ?_⟩
    have := h2 i.toNat (by omega)
    rw [Int.toNat_of_nonneg h3] at this
    exact this
  · refine Or.inr ⟨by omega, by omega, by rw [h2]; exact h3, fun j h5 h6 => ?_⟩
    have := h4 j.toNat (by omega)
    rw [Int.toNat_of_nonneg h5] at this
    exact this
theorem fiZ_eq {n i : Int} {p : Int → Bool} (h0 : 0 ≤ i) (h1 : i < n) (h2 : p i = true) (h3 : ∀ j, 0 ≤ j → j < i → p j = false) : fiZ n p = i := by
  rcases fiZ_spec n p with ⟨_, e2⟩ | ⟨e1, e2, e3, e4⟩
  · rw [e2 i h0 h1] at h2
    cases h2
  · by_cases hc : fiZ n p < i
    · rw [h3 _ e1 hc] at e3
      cases e3
    · by_cases hd : i < fiZ n p
      · rw [e4 _ h0 hd] at h2
        cases h2
      · omega
theorem fiZ_none {n : Int} {p : Int → Bool} (h : ∀ i, 0 ≤ i → i < n → p i = false) : fiZ n p = -1 := by
  rcases fiZ_spec n p with ⟨e1, _⟩ | ⟨e1, e2, e3, _⟩
  · exact e1
  · rw [h _ e1 e2] at e3
    cases e3
theorem fiZ_congr {n : Int} {p q : Int → Bool} (h : ∀ i, 0 ≤ i → i < n → p i = q i) : fiZ n p = fiZ n q := by
  rcases fiZ_spec n q with ⟨e1, e2⟩ | ⟨e1, e2, e3, e4⟩
  · rw [e1]
    exact fiZ_none (fun i h0 h1 => by rw [h i h0 h1, e2 i h0 h1])
  · exact fiZ_eq e1 e2 (by rw [h _ e1 e2, e3]) (fun j h0 h1 => by rw [h j h0 (by omega), e4 j h0 h1])
theorem fiZ_any {n : Int} {p : Int → Bool} : decide (0 ≤ fiZ n p) = anyZ n p := by
  rcases fiZ_spec n p with ⟨e1, e2⟩ | ⟨e1, e2, e3, e4⟩
  · rw [e1]
    cases hc : anyZ n p
    · rfl
    · obtain ⟨i, h0, h1, h2⟩ := anyZ_iff.mp hc
      rw [e2 i h0 h1] at h2
      cases h2
  · rw [decide_eq_true e1]
    exact (anyZ_iff.mpr ⟨_, e1, e2, e3⟩).symm
theorem loop_find {σ R : Type} {body : (σ → Option R) → σ → Option R} {s : σ} (S : Int → σ) (n : Int) (p : Int → Bool) (F : Int → Option R) (h0 : 0 ≤ n) (hn : n < 4294967296) (h : S 0 = s) (hs : ∀ k i, 0 ≤ i → i < n → p i = false → body k (S i) = k (S (i + 1))) (hr : ∀ k i, 0 ≤ i → i < n → p i = true → body k (S i) = F i) (he : ∀ k, body k (S n) = F (-1)) : loopK FUEL body s = F (fiZ n p) := by
  rcases fiZ_spec n p with ⟨e1, e2⟩ | ⟨e1, e2, e3, e4⟩
  · rw [e1]
    exact loop_int S n h0 hn h (fun k i a b => hs k i a b (e2 i a b)) he
  · exact loop_int S (fiZ n p) e1 (by omega) h (fun k i a b => hs k i a (by omega) (e4 i a b)) (fun k => hr k _ e1 e2 e3)
theorem anyZ_0 {f : Int → Bool} : anyZ 0 f = false := rfl
theorem anyZ_succ {n : Int} {f : Int → Bool} (h : 0 ≤ n) : anyZ (n + 1) f = (anyZ n f || f n) := by
  unfold anyZ
  rw [show (n + 1).toNat = n.toNat + 1 by omega]
  show (anyN n.toNat _ || f (n.toNat : Int)) = _
  rw [Int.toNat_of_nonneg h]
theorem anyZ_congr {n : Int} {f g : Int → Bool} (H : ∀ i, 0 ≤ i → i < n → f i = g i) : anyZ n f = anyZ n g := by
  rw [← fiZ_any, ← fiZ_any, fiZ_congr H]
theorem anyZ_F {n : Int} {f : Int → Bool} : anyZ n f = false ↔ ∀ i, 0 ≤ i → i < n → f i = false := by
  rw [← Bool.not_eq_true, anyZ_iff]
  constructor
  · intro h i h0 h1
    cases hf : f i
    · rfl
    · exact absurd ⟨i, h0, h1, hf⟩ h
  · rintro h ⟨i, h0, h1, hf⟩
    rw [h i h0 h1] at hf
    cases hf
theorem sumN_zero {n : Nat} : sumN n (fun _ => 0) = 0 := by
  induction n with
  | zero => rfl
  | succ n ih => show sumN n _ + 0 = 0; rw [ih]; rfl
theorem sumN_add {n : Nat} {f g : Nat → Int} : sumN n (fun i => f i + g i) = sumN n f + sumN n g := by
  induction n with
  | zero => rfl
  | succ n ih => show sumN n _ + (f n + g n) = (sumN n f + f n) + (sumN n g + g n); rw [ih]; omega
theorem sumN_swap {n m : Nat} {f : Nat → Nat → Int} : sumN n (fun i => sumN m (fun j => f i j)) = sumN m (fun j => sumN n (fun i => f i j)) := by
  induction n with
  | zero => exact sumN_zero.symm
  | succ n ih =>
    show sumN n _ + sumN m (fun j => f n j) = sumN m (fun j => sumN n (fun i => f i j) + f n j)
    rw [ih, sumN_add]
theorem sumZ_swap {n m : Int} {f : Int → Int → Int} : sumZ n (fun i => sumZ m (fun j => f i j)) = sumZ m (fun j => sumZ n (fun i => f i j)) := sumN_swap (f := fun i j => f i j)
theorem sumZ_zero {n : Int} {f : Int → Int} (h : ∀ i, 0 ≤ i → i < n → f i = 0) : sumZ n f = 0 := by
  rw [sumZ_congr (g := fun _ => 0) h]
  exact sumN_zero
theorem sumZ_neg {n : Int} {f : Int → Int} (h : n ≤ 0) : sumZ n f = 0 := by
  unfold sumZ
  rw [show n.toNat = 0 by omega]
  rfl
theorem sumN_mul {n : Nat} {f : Nat → Int} {c : Int} : c * sumN n f = sumN n (fun i => c * f i) := by
  induction n with
  | zero => exact Int.mul_zero c
  | succ n ih => show c * (sumN n f + f n) = sumN n _ + c * f n; rw [Int.mul_add, ih]
theorem sumZ_mul {n : Int} {f : Int → Int} {c : Int} : c * sumZ n f = sumZ n (fun i => c * f i) := sumN_mul
theorem sumN_split {n m : Nat} {f : Nat → Int} : sumN (n + m) f = sumN n f + sumN m (fun i => f (n + i)) := by
  induction m with
  | zero => exact (Int.add_zero _).symm
  | succ m ih => show sumN (n + m) f + f (n + m) = sumN n f + (sumN m (fun i => f (n + i)) + f (n + m)); rw [ih]; omega
theorem sumZ_split {n m : Int} {f : Int → Int} (h1 : 0 ≤ n) (h2 : 0 ≤ m) : sumZ (n + m) f = sumZ n f + sumZ m (fun i => f (n + i)) := by
  unfold sumZ
  rw [show (n + m).toNat = n.toNat + m.toNat by omega, sumN_split]
  congr 1
  exact sumN_congr (fun i hi => congrArg f (by omega))
theorem sumZ_cut {n N : Int} {f : Int → Int} (h0 : 0 ≤ n) (h1 : n ≤ N) (h : ∀ i, n ≤ i → i < N → f i = 0) : sumZ N f = sumZ n f := by
  rw [show N = n + (N - n) by omega, sumZ_split h0 (by omega), sumZ_zero (n := N - n) (fun i a b => h _ (by omega) (by omega))]
  omega
theorem sumZ_point {n a : Int} {f : Int → Int} (h0 : 0 ≤ a) (h1 : a < n) (h : ∀ i, 0 ≤ i → i < n → i ≠ a → f i = 0) : sumZ n f = f a := by
  rw [show n = (a + 1) + (n - (a + 1)) by omega, sumZ_split (by omega) (by omega), sumZ_succ h0, sumZ_zero (n := a) (fun i b c => h i b (by omega) (by omega)), sumZ_zero (n := n - (a + 1)) (fun i b c => h _ (by omega) (by omega) (by omega))]
  omega
/-- rows of ten -/
theorem sumZ_tens {n : Int} {f : Int → Int} (h : 0 ≤ n) : sumZ (10 * n) f = sumZ n (fun d => sumZ 10 (fun v => f (10 * d + v))) := by
  have key : ∀ k : Nat, sumZ (10 * (k : Int)) f = sumZ (k : Int) (fun d => sumZ 10 (fun v => f (10 * d + v))) := by
    intro k
    induction k with
    | zero => rfl
    | succ k ih =>
      rw [show (10 * ((k + 1 : Nat) : Int)) = 10 * (k : Int) + 10 by omega, sumZ_split (by omega) (by omega), ih, show ((k + 1 : Nat) : Int) = (k : Int) + 1 by omega, sumZ_succ (by omega)]
  have := key n.toNat
  rw [Int.toNat_of_nonneg h] at this
  exact this
theorem sumZ_nonneg {n : Int} {f : Int → Int} {c : Int} (hn : 0 ≤ n) (h : ∀ i, 0 ≤ i → i < n → 0 ≤ f i ∧ f i ≤ c) : 0 ≤ sumZ n f ∧ sumZ n f ≤ n * c := by
  have key : ∀ k : Nat, (k : Int) ≤ n → 0 ≤ sumZ (k : Int) f ∧ sumZ (k : Int) f ≤ (k : Int) * c := by
    intro k
    induction k with
    | zero => intro _; exact ⟨Int.le_refl 0, by rw [show ((0 : Nat) : Int) * c = 0 from Int.zero_mul c]; exact Int.le_refl 0⟩
    | succ k ih =>
      intro hk
      have h1 := ih (by omega)
      have h2 := h k (by omega) (by omega)
      rw [show ((k + 1 : Nat) : Int) = (k : Int) + 1 by omega, sumZ_succ (by omega), Int.add_mul, Int.one_mul]
      omega
  have := key n.toNat (by omega)
  rw [Int.toNat_of_nonneg hn] at this
  exact this
theorem d10 {d v : Int} (h0 : 0 ≤ v) (h1 : v < 10) : (10 * d + v) / 10 = d ∧ (10 * d + v) % 10 = v := by omega
theorem bs {α β : Type} {x : α} {f : α → Option β} : (some x).bind f = f x := by
  have e : ∀ y : Option α, y = some x → y.bind f = f x := fun y hy => by
    subst hy
    rfl
  exact e _ rfl
